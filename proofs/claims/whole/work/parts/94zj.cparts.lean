/-! THE CLASS: the parts of a statement -/
set_option maxRecDepth 100000
/-- the class' reader holds q -/
def cQ (q : Nat → Nat → Nat) (I : Nat → Nat → Int32) : Prop := I 35 5 = nI (q 117 41) ∧ I 35 6 = nI (q 117 42) ∧ I 35 8 = nI (q 35 8) ∧ (∀ k, k < q 117 42 → I 37 k = nI (q 143 k)) ∧ ∀ k, k < q 35 8 → I 38 k = nI (q 38 k)
def eR (I I' : Nat → Nat → Int32) : Prop := ∀ a k, ¬ (a = 37 ∨ a = 38 ∨ (a = 35 ∧ k ≠ 1)) → I' a k = I a k
theorem eR_t {I I1 I2 : Nat → Nat → Int32} (h : eR I I1) (h' : eR I1 I2) : eR I I2 := fun a k hx => (h' a k hx).trans (h a k hx)
theorem eR_c {I I' : Nat → Nat → Int32} (h : eCc I I') : eR I I' := fun a k hx => h a k (by omega)
theorem eR_r (I : Nat → Nat → Int32) : eR I I := fun _ _ _ => rfl
theorem cQ_c {q : Nat → Nat → Nat} {I I' : Nat → Nat → Int32} (h : cQ q I) (he : eCc I I') : cQ q I' := ⟨by rw [he _ _ (by omega)]; exact h.1, by rw [he _ _ (by omega)]; exact h.2.1, by rw [he _ _ (by omega)]; exact h.2.2.1, fun k hk => by rw [he _ _ (by omega)]; exact h.2.2.2.1 k hk, fun k hk => by rw [he _ _ (by omega)]; exact h.2.2.2.2 k hk⟩
/-- q is seen alike -/
theorem cQ_q {q q' : Nat → Nat → Nat} {I : Nat → Nat → Int32} (h : cQ q I) (h1 : q' 117 41 = q 117 41) (h2 : q' 117 42 = q 117 42) (h3 : q' 35 8 = q 35 8) (h4 : ∀ k, k < q 117 42 → q' 143 k = q 143 k) (h5 : ∀ k, k < q 35 8 → q' 38 k = q 38 k) : cQ q' I := ⟨by rw [h1]; exact h.1, by rw [h2]; exact h.2.1, by rw [h3]; exact h.2.2.1, fun k hk => by rw [h2] at hk; rw [h4 k hk]; exact h.2.2.2.1 k hk, fun k hk => by rw [h3] at hk; rw [h5 k hk]; exact h.2.2.2.2 k hk⟩
theorem cQ_told {q : Nat → Nat → Nat} {l : Nat} {I : Nat → Nat → Int32} (h : cQ q I) : cQ (qTold q l) I := by
  unfold qTold
  exact cQ_q h (by rw [zu_k (by omega), zu_a (by omega)]) (by rw [zu_k (by omega), zu_a (by omega)]) (by rw [zu_a (by omega), zu_a (by omega)]) (fun k _ => by rw [zu_a (by omega), zu_a (by omega)]) (fun k _ => by rw [zu_a (by omega), zu_a (by omega)])
theorem cQ_part {q : Nat → Nat → Nat} {s a b : Nat} {I : Nat → Nat → Int32} (h : cQ q I) : cQ (qPart q s a b) I := by
  unfold qPart
  refine cQ_q h ?_ ?_ ?_ (fun k _ => ?_) (fun k _ => ?_) <;> simp (disch := omega) only [zu_a, zu_k]
theorem cQ_code {q : Nat → Nat → Nat} {x j : Nat} {I : Nat → Nat → Int32} (h : cQ q I) : cQ (qCode q x) (ju (ju (ju I 35 2 (nI j)) 38 (q 35 8) (nI x)) 35 8 (nI (q 35 8 + 1))) := by
  obtain ⟨h1, h2, h3, h4, h5⟩ := h
  unfold qCode
  refine ⟨?_, ?_, ?_, fun k hk => ?_, fun k hk => ?_⟩
  · simp (disch := omega) only [zu_a, zu_k]; exact h1
  · simp (disch := omega) only [zu_a, zu_k]; exact h2
  · rw [zu_at, zu_at]
  · simp (disch := omega) only [zu_a, zu_k] at hk ⊢; exact h4 k hk
  · rw [zu_at] at hk
    by_cases hkn : k = q 35 8
    · rw [hkn]; simp (disch := omega) only [zu_a, zu_at]
    · simp (disch := omega) only [zu_a, zu_k]; exact h5 k (by omega)
/-- what a piece of the reading comes to -/
def cSt (c : Nat → Nat) (N : Nat) (r : Bool × Nat × (Nat → Nat → Nat)) (I : Nat → Nat → Int32) : Prop := (r.1 = true → lG c N r.2.1 I ∧ cQ r.2.2 I ∧ r.2.2 35 8 ≤ r.2.1) ∧ (r.1 = false → fF c N r.2.1 I)
theorem cSt_t {c : Nat → Nat} {N i : Nat} {q : Nat → Nat → Nat} {I : Nat → Nat → Int32} (h1 : lG c N i I) (h2 : cQ q I) (h3 : q 35 8 ≤ i) : cSt c N (true, i, q) I := ⟨fun _ => ⟨h1, h2, h3⟩, fun h => Bool.noConfusion h⟩
theorem cSt_f {c : Nat → Nat} {N i : Nat} {q : Nat → Nat → Nat} {I : Nat → Nat → Int32} (h1 : fF c N i I) : cSt c N (false, i, q) I := ⟨fun h => Bool.noConfusion h, fun _ => h1⟩
theorem pLet_44 (c : Nat → Nat) (N : Nat) : ∀ f i q, (pLet c N f i q).2.2 117 44 = q 117 44 := by
  intro f
  induction f with
  | zero => intro i q; rfl
  | succ f ih =>
    intro i q
    unfold pLet
    by_cases h : pCh c N i = 39
    · rw [if_pos h]; exact qCode_r (q := q) (x := 39) (show (117 : Nat) ≠ 38 by omega) (show (117 : Nat) ≠ 35 by omega)
    · rw [if_neg h]
      cases lO3 (pCh c N i) with
      | none => rfl
      | some l =>
        show (pLet c N f (pSk c N i + 1) (qCode (qTold q l) (pCh c N i))).2.2 117 44 = _
        rw [ih, qCode_r (by omega) (by omega)]
        unfold qTold
        rw [zu_k (by omega), zu_a (by omega)]
theorem pLet_i (c : Nat → Nat) (N : Nat) : ∀ f i q, i ≤ N → (pLet c N f i q).1 = true → i < (pLet c N f i q).2.1 ∧ (pLet c N f i q).2.1 ≤ N := by
  intro f
  induction f with
  | zero => intro i q _ h; exact Bool.noConfusion h
  | succ f ih =>
    intro i q hi
    obtain ⟨hs1, hs2⟩ := pSk_le (c := c) hi
    unfold pLet
    by_cases h : pCh c N i = 39
    · rw [if_pos h]
      have hlt := pCh_lt (c := c) (N := N) (i := i) (by omega)
      intro _
      exact ⟨show i < pSk c N i + 1 by omega, show pSk c N i + 1 ≤ N by omega⟩
    · rw [if_neg h]
      cases hl : lO3 (pCh c N i) with
      | none => intro h; exact Bool.noConfusion h
      | some l =>
        have hlt := pCh_lt (c := c) (N := N) (i := i) (by have := lO3_lt hl; omega)
        intro hh
        have := ih (pSk c N i + 1) (qCode (qTold q l) (pCh c N i)) (by omega) hh
        exact ⟨Nat.lt_of_le_of_lt (by omega) this.1, this.2⟩
section MM
variable (d L : Nat) (g : jG) {J : Nat → Nat → Int64}
theorem c_keep {c : Nat → Nat} {N i x : Nat} {q : Nat → Nat → Nat} {I : Nat → Nat → Int32} (hN : N ≤ 120) (hi : i < N) (hx : x < 128) (h : lG c N i I) (hq : cQ q I) (h8 : q 35 8 ≤ i) : ∃ I', eR I I' ∧ lG c N (i + 1) I' ∧ cQ (qCode q x) I' ∧ jcall (d + 1) 74 [.ref 35, .int (nI x)] (jGs L g, I, J) = some (none, (jGs L g, I', J)) := by
  refine ⟨_, fun a k hk => ?_, ⟨by omega, ⟨?_, fun j hj => ?_, ?_⟩, ?_⟩, cQ_code (j := i + 1) hq, ?_⟩
  · rw [ju_ne (by omega), ju_ne (by omega), ju_ne (by omega)]
  · simp (disch := omega) only [zu_a, zu_k]; exact h.2.1.1
  · simp (disch := omega) only [zu_a, zu_k]; exact h.2.1.2.1 j hj
  · simp (disch := omega) only [zu_a, zu_k, zu_at]
  · simp (disch := omega) only [zu_a, zu_k]; exact h.2.2
  · rw [c_ProgramReader_keep, e_ProgramReader_keep_0, hq.2.2.1, h.2.1.2.2, show Int32.ofNat 120 = nI 120 from rfl, jif_f (nI_ge (by omega) (by omega)), jin_nI (by omega) (by omega), nI_c (by omega), cond_true, zi_b hx, zi_b hx, nI_1, nI_1, e_ProgramReader_keep_43]
theorem c_qu_f {x1 x2 : Int32} {I : Nat → Nat → Int32} (h : I 35 3 = nI 1) : jval d 73 4 [.ref 35, .int x1, .int x2] [] (jGs L g, I, J) = some (none, (jGs L g, I, J)) := by
  rw [e_ProgramReader_quoted_4, jif_f (show ¬ I 35 3 = (0 : Int32) by rw [h]; decide), e_ProgramReader_quoted_64]
  by_cases h1 : (120 : Int32) ≤ x2
  · rw [jif_t h1]
  · rw [jif_f h1]
theorem c_qu {c : Nat → Nat} {N : Nat} (hN : N ≤ 120) (hc : ∀ i, i < N → c i < 128) (hg : g.2.2.1 35 0 = some 2) : ∀ f i q I t x1, N + 1 ≤ f + i → lG c N i I → cQ q I → q 35 8 ≤ i → t < i → x1 ≠ (39 : Int32) → ∃ I', eR I I' ∧ cSt c N (pLet c N f i q) I' ∧ jval (d + 2) 73 4 [.ref 35, .int x1, .int (nI t)] [] (jGs L g, I, J) = some (none, (jGs L g, I', J)) := by
  intro f
  induction f with
  | zero => intro i q I t x1 hf h; exact absurd h.1 (by omega)
  | succ f ih =>
    intro i q I t x1 hf h hq h8 ht hx1
    obtain ⟨hs1, hs2⟩ := pSk_le (c := c) h.1
    have hi := h.1
    obtain ⟨I1, a1, a2, a3⟩ := c_peek (d + 1) L g (J := J) hN hc hg h.1 h.2.1
    have g1 : lG c N (pSk c N i) I1 := ⟨hs2, a2, by rw [a1 _ _ (by omega)]; exact h.2.2⟩
    have q1 := cQ_c hq (eCc_2 a1)
    have head : jval (d + 2) 73 4 [.ref 35, .int x1, .int (nI t)] [] (jGs L g, I, J) = jval (d + 2) 73 27 [.ref 35, jjunk, .int (nI t)] [.int (hV c N (pSk c N i))] (jGs L g, I1, J) := by
      rw [e_ProgramReader_quoted_4, show (120 : Int32) = nI 120 from rfl, jif_f (nI_ge (by omega) (by omega)), jif_t (show I 35 3 = (0 : Int32) from h.2.2), jif_f hx1, a3, jcI_some]
    rw [head, e_ProgramReader_quoted_27, show (97 : Int32) = nI 97 from rfl, show (99 : Int32) = nI 99 from rfl, hV_lt hc (by omega), hV_le hc (by omega)]
    unfold pLet
    by_cases h39 : pCh c N i = 39
    · rw [if_pos h39]
      have hlt := pCh_lt (c := c) (N := N) (i := i) (by omega)
      obtain ⟨I2, b1, b2, b3, b4⟩ := c_keep (d + 1) L g (J := J) (x := 39) hN hlt (by omega) g1 q1 (by omega)
      refine ⟨I2, eR_t (eR_c (eCc_2 a1)) b1, cSt_t b2 b3 ?_, ?_⟩
      · unfold qCode; rw [zu_at]; omega
      · obtain ⟨-, hv⟩ := hV_some (c := c) (N := N) (i := i) (by omega)
        rw [jif_t (by omega), e_ProgramReader_quoted_40, hv, h39, jif_t (by decide), e_ProgramReader_quoted_46, b4, jcV_some, e_ProgramReader_quoted_51, e_ProgramReader_quoted_58, nI_1, e_ProgramReader_quoted_4, show (120 : Int32) = nI 120 from rfl, jif_f (nI_ge (by omega) (by omega)), jif_t (show I2 35 3 = (0 : Int32) from b2.2.2), jif_t (by decide), e_ProgramReader_quoted_64]
    · rw [if_neg h39]
      cases hl : lO3 (pCh c N i) with
      | some l =>
        obtain ⟨l3, x97, x99⟩ := lO3_lt hl
        have hlt := pCh_lt (c := c) (N := N) (i := i) (by omega)
        obtain ⟨-, hv⟩ := hV_some (c := c) (N := N) (i := i) (by omega)
        have h8' : qTold q l 35 8 = q 35 8 := by unfold qTold; rw [zu_a (by omega), zu_a (by omega)]
        obtain ⟨I2, b1, b2, b3, b4⟩ := c_keep (d + 1) L g (J := J) (x := pCh c N i) hN hlt (by omega) g1 (cQ_told (l := l) q1) (by omega)
        obtain ⟨I3, e1, e2, e3⟩ := ih (pSk c N i + 1) (qCode (qTold q l) (pCh c N i)) I2 (t + 1) (nI (pCh c N i)) (by omega) b2 b3 (by unfold qCode; rw [zu_at]; omega) (by omega) (fun e => h39 ((nI_eq (b := 39) (by omega) (by omega)).mp e))
        refine ⟨I3, eR_t (eR_c (eCc_2 a1)) (eR_t b1 e1), e2, ?_⟩
        rw [jif_f (by omega), jif_t (by omega), e_ProgramReader_quoted_46, hv, b4, jcV_some, e_ProgramReader_quoted_51, e_ProgramReader_quoted_58, nI_1]
        exact e3
      | none =>
        have hnl : ¬ (97 ≤ pCh c N i ∧ pCh c N i ≤ 99) := fun e => by unfold lO3 at hl; rw [if_pos e] at hl; cases hl
        refine ⟨_, eR_t (eR_c (eCc_2 a1)) (eR_c eCc_now), cSt_f (fF_now hs2 a2), ?_⟩
        have e40 : jval (d + 2) 73 40 [.ref 35, .int (hV c N (pSk c N i)), .int (nI t)] [] (jGs L g, I1, J) = some (none, (jGs L g, ju (ju I1 35 3 (nI 1)) 35 4 (I1 35 2), J)) := by
          rw [e_ProgramReader_quoted_40, jif_f (by rw [show (39 : Int32) = nI 39 from rfl, hV_pCh hc (by omega)]; exact h39), c_fail_t (d + 1) L g g1.2.2, jcV_some, e_ProgramReader_quoted_58, c_qu_f (d + 2) L g (by rw [zu_k (by omega), zu_at])]
        by_cases h97 : pCh c N i < 97 ∨ pCh c N i = 255
        · rw [jif_t h97, e40]
        · rw [jif_f h97, jif_f (by omega), e40]
theorem c_quoted {c : Nat → Nat} {N i : Nat} {q : Nat → Nat → Nat} {I : Nat → Nat → Int32} (hN : N ≤ 120) (hc : ∀ i, i < N → c i < 128) (hg : g.2.2.1 35 0 = some 2) (h : lG c N i I) (hq : cQ q I) (h8 : q 35 8 ≤ i) (h0 : 0 < i) : ∃ I', eR I I' ∧ cSt c N (pLet c N (N + 1) i q) I' ∧ jcall (d + 3) 73 [.ref 35] (jGs L g, I, J) = some (none, (jGs L g, I', J)) := by
  obtain ⟨I', a1, a2, a3⟩ := c_qu d L g (J := J) hN hc hg (N + 1) i q I 0 (-1) (by omega) h hq h8 h0 (by decide)
  refine ⟨I', a1, a2, ?_⟩
  rw [c_ProgramReader_quoted, e_ProgramReader_quoted_0, show (0 : Int32) = nI 0 from rfl]
  exact a3
theorem c_pt_f {x1 x2 : Int32} {I : Nat → Nat → Int32} (h : I 35 3 = nI 1) : jval d 72 4 [.ref 35, .int x1, .int x2, jjunk] [] (jGs L g, I, J) = some (none, (jGs L g, I, J)) := by
  rw [e_ProgramReader_parts_4, jif_f (show ¬ I 35 3 = (0 : Int32) by rw [h]; decide), e_ProgramReader_parts_99]
  by_cases h1 : (120 : Int32) ≤ x2
  · rw [jif_t h1]
  · rw [jif_f h1]
theorem c_pt {c : Nat → Nat} {N fr : Nat} (hN : N ≤ 120) (hc : ∀ i, i < N → c i < 128) (hg : g.2.2.1 35 0 = some 2) : ∀ f i q I t x1, N + 1 ≤ f + i → lG c N i I → cQ q I → q 35 8 ≤ i → t < i → q 117 44 = fr + t → x1 ≠ (59 : Int32) → ∃ I', eR I I' ∧ cSt c N (pPts c N fr f i q) I' ∧ jval (d + 3) 72 4 [.ref 35, .int x1, .int (nI t), jjunk] [] (jGs L g, I, J) = some (none, (jGs L g, I', J)) := by
  intro f
  induction f with
  | zero => intro i q I t x1 hf h; exact absurd h.1 (by omega)
  | succ f ih =>
    intro i q I t x1 hf h hq h8 ht h44 hx1
    obtain ⟨hs1, hs2⟩ := pSk_le (c := c) h.1
    have hi := h.1
    obtain ⟨I1, a1, a2, a3⟩ := c_peek (d + 2) L g (J := J) hN hc hg h.1 h.2.1
    have g1 : lG c N (pSk c N i) I1 := ⟨hs2, a2, by rw [a1 _ _ (by omega)]; exact h.2.2⟩
    have q1 := cQ_c hq (eCc_2 a1)
    have F1 := eR_c (eCc_2 a1)
    have head : jval (d + 3) 72 4 [.ref 35, .int x1, .int (nI t), jjunk] [] (jGs L g, I, J) = jval (d + 3) 72 32 [.ref 35, .int (hV c N (pSk c N i)), .int (nI t), jjunk] [.int (oO (vO (pCh c N i)))] (jGs L g, I1, J) := by
      rw [e_ProgramReader_parts_4, show (120 : Int32) = nI 120 from rfl, jif_f (nI_ge (by omega) (by omega)), jif_t (show I 35 3 = (0 : Int32) from h.2.2), jif_f hx1, a3, jcI_some, e_ProgramReader_parts_27, c_variableOf (d + 2) L g hc, jcI_some]
    rw [head]
    -- a sign that is kept
    have kept : pCh c N i < 128 → ∀ q2, cQ q2 I1 → q2 35 8 = q 35 8 → ∃ I2, eR I1 I2 ∧ lG c N (pSk c N i + 1) I2 ∧ cQ (qCode q2 (pCh c N i)) I2 ∧ jval (d + 3) 72 63 [.ref 35, .int (hV c N (pSk c N i)), .int (nI t), jjunk] [] (jGs L g, I1, J) = jval (d + 3) 72 83 [.ref 35, .int (nI (pCh c N i)), .int (nI t), jjunk] [] (jGs L g, I2, J) := by
      intro hx q2 hq2 e8
      have hlt := pCh_lt (c := c) (N := N) (i := i) (by omega)
      obtain ⟨-, hv⟩ := hV_some (c := c) (N := N) (i := i) (by omega)
      obtain ⟨I2, b1, b2, b3, b4⟩ := c_keep (d + 2) L g (J := J) (x := pCh c N i) hN hlt hx g1 hq2 (by omega)
      refine ⟨I2, b1, b2, b3, ?_⟩
      rw [e_ProgramReader_parts_63, e_ProgramReader_parts_68, jif_f (by decide), hv, b4, jcV_some]
    unfold pPts
    by_cases h39 : pCh c N i = 39
    · rw [if_pos h39]
      have hlt := pCh_lt (c := c) (N := N) (i := i) (by omega)
      obtain ⟨I2, b1, b2, b3, b4⟩ := kept (by omega) q q1 rfl
      rw [h39] at b3 b4
      have c8 : qCode q 39 35 8 ≤ pSk c N i + 1 := by unfold qCode; rw [zu_at]; omega
      obtain ⟨I3, e1, e2, e3⟩ := c_quoted d L g (J := J) hN hc hg b2 b3 c8 (by omega)
      have s32 : jval (d + 3) 72 32 [.ref 35, .int (hV c N (pSk c N i)), .int (nI t), jjunk] [.int (oO (vO (pCh c N i)))] (jGs L g, I1, J) = jval (d + 3) 72 4 [.ref 35, .int (nI 39), .int (nI (t + 1)), jjunk] [] (jGs L g, I3, J) := by
        rw [e_ProgramReader_parts_32, oO_ge vO4, h39, jif_f (by decide), jif_t (by rw [show (48 : Int32) = nI 48 from rfl, hV_lt hc (by omega)]; omega), e_ProgramReader_parts_47, jif_t (by rw [show (39 : Int32) = nI 39 from rfl, hV_pCh hc (by omega)]; exact h39), b4, e_ProgramReader_parts_83, jif_t (by decide), e3, jcV_some, e_ProgramReader_parts_93, nI_1]
      rw [s32]
      have hl44 := pLet_44 c N (N + 1) (pSk c N i + 1) (qCode q 39)
      rw [qCode_r (by omega) (by omega)] at hl44
      have hli := pLet_i c N (N + 1) (pSk c N i + 1) (qCode q 39) (by omega)
      rcases hp : pLet c N (N + 1) (pSk c N i + 1) (qCode q 39) with ⟨b, i', q'⟩
      rw [hp] at e2 hl44 hli
      cases b
      · exact ⟨I3, eR_t F1 (eR_t b1 e1), cSt_f (e2.2 rfl), c_pt_f (d + 3) L g (e2.2 rfl).2.1⟩
      · obtain ⟨y1, y2, y3⟩ := e2.1 rfl
        have hli' : pSk c N i + 1 < i' := (hli rfl).1
        have y3' : q' 35 8 ≤ i' := y3
        have hl44' : q' 117 44 = q 117 44 := hl44
        have p8 : ∀ a b e, qPart q' a b e 35 8 = q' 35 8 := fun a b e => by unfold qPart; simp (disch := omega) only [zu_a, zu_k]
        have p44 : ∀ a b e, qPart q' a b e 117 44 = q' 117 44 + 1 := fun a b e => by unfold qPart; rw [zu_at]
        obtain ⟨I4, o1, o2, o3⟩ := ih i' (qPart q' 1 (q 117 48) (q' 117 48 - q 117 48)) I3 (t + 1) (nI 39) (by omega) y1 (cQ_part y2) (by rw [p8]; exact y3') (by omega) (by rw [p44]; omega) (by decide)
        exact ⟨I4, eR_t F1 (eR_t b1 (eR_t e1 o1)), o2, o3⟩
    · rw [if_neg h39]
      -- a sign that is kept and is no quote
      have go : ∀ q2, pCh c N i < 128 → cQ q2 I1 → q2 35 8 = q 35 8 → q2 117 44 = q 117 44 + 1 → pCh c N i ≠ 59 → jval (d + 3) 72 32 [.ref 35, .int (hV c N (pSk c N i)), .int (nI t), jjunk] [.int (oO (vO (pCh c N i)))] (jGs L g, I1, J) = jval (d + 3) 72 63 [.ref 35, .int (hV c N (pSk c N i)), .int (nI t), jjunk] [] (jGs L g, I1, J) → ∃ I', eR I I' ∧ cSt c N (pPts c N fr f (pSk c N i + 1) (qCode q2 (pCh c N i))) I' ∧ jval (d + 3) 72 32 [.ref 35, .int (hV c N (pSk c N i)), .int (nI t), jjunk] [.int (oO (vO (pCh c N i)))] (jGs L g, I1, J) = some (none, (jGs L g, I', J)) := by
        intro q2 hx hq2 e8 e44 h59 e32
        obtain ⟨I2, b1, b2, b3, b4⟩ := kept hx q2 hq2 e8
        obtain ⟨I4, o1, o2, o3⟩ := ih (pSk c N i + 1) (qCode q2 (pCh c N i)) I2 (t + 1) (nI (pCh c N i)) (by omega) b2 b3 (by unfold qCode; rw [zu_at]; omega) (by omega) (by rw [qCode_r (by omega) (by omega)]; omega) (fun e => h59 ((nI_eq (b := 59) (by omega) (by omega)).mp e))
        refine ⟨I4, eR_t F1 (eR_t b1 o1), o2, ?_⟩
        rw [e32, b4, e_ProgramReader_parts_83, jif_f (show ¬ nI (pCh c N i) = (39 : Int32) from fun e => h39 ((nI_eq (b := 39) (by omega) (by omega)).mp e)), e_ProgramReader_parts_93, nI_1]
        exact o3
      have p8 : ∀ a b e, qPart q a b e 35 8 = q 35 8 := fun a b e => by unfold qPart; simp (disch := omega) only [zu_a, zu_k]
      have p44 : ∀ a b e, qPart q a b e 117 44 = q 117 44 + 1 := fun a b e => by unfold qPart; rw [zu_at]
      by_cases hd : 48 ≤ pCh c N i ∧ pCh c N i ≤ 51
      · rw [if_pos hd]
        have hvn : vO (pCh c N i) = none := by
          cases hv : vO (pCh c N i) with
          | none => rfl
          | some v => have := vO_lt hv; omega
        refine go _ (by omega) (cQ_part q1) (p8 _ _ _) (p44 _ _ _) (by omega) ?_
        rw [e_ProgramReader_parts_32, oO_ge vO4, hvn, jif_f (by decide), show (48 : Int32) = nI 48 from rfl, show (51 : Int32) = nI 51 from rfl, jif_f (by rw [hV_lt hc (by omega)]; omega), jif_t (by rw [hV_le hc (by omega)]; omega)]
      · rw [if_neg hd]
        have e47 : vO (pCh c N i) = none → jval (d + 3) 72 32 [.ref 35, .int (hV c N (pSk c N i)), .int (nI t), jjunk] [.int (oO (vO (pCh c N i)))] (jGs L g, I1, J) = jval (d + 3) 72 47 [.ref 35, .int (hV c N (pSk c N i)), .int (nI t), jjunk] [] (jGs L g, I1, J) := by
          intro hvn
          rw [e_ProgramReader_parts_32, oO_ge vO4, hvn, jif_f (by decide), show (48 : Int32) = nI 48 from rfl, show (51 : Int32) = nI 51 from rfl, hV_lt hc (by omega), hV_le hc (by omega)]
          by_cases h48 : pCh c N i < 48 ∨ pCh c N i = 255
          · rw [jif_t h48]
          · rw [jif_f h48, jif_f (by omega)]
        by_cases h59 : pCh c N i = 59 ∧ fr < q 117 44
        · rw [if_pos h59]
          have hlt := pCh_lt (c := c) (N := N) (i := i) (by omega)
          obtain ⟨I2, b1, b2, b3, b4⟩ := kept (by omega) q q1 rfl
          rw [h59.1] at b3 b4
          refine ⟨I2, eR_t F1 b1, cSt_t b2 b3 (by unfold qCode; rw [zu_at]; omega), ?_⟩
          rw [e47 (by rw [h59.1]; rfl), e_ProgramReader_parts_47, jif_f (by rw [show (39 : Int32) = nI 39 from rfl, hV_pCh hc (by omega)]; exact h39), jif_t (by rw [show (59 : Int32) = nI 59 from rfl, hV_pCh hc (by omega)]; exact h59.1), jif_f (show ¬ nI t ≤ (0 : Int32) from nI_ge (a := 0) (b := t) (by omega) (by omega)), b4, e_ProgramReader_parts_83, jif_f (by decide), e_ProgramReader_parts_93, nI_1, e_ProgramReader_parts_4, show (120 : Int32) = nI 120 from rfl, jif_f (nI_ge (by omega) (by omega)), jif_t (show I2 35 3 = (0 : Int32) from b2.2.2), jif_t (by decide), e_ProgramReader_parts_99]
        · rw [if_neg h59]
          cases hv : vO (pCh c N i) with
          | some v =>
            have := vO_lt hv
            rw [hv] at go
            refine go _ (by omega) (cQ_part q1) (p8 _ _ _) (p44 _ _ _) (by omega) ?_
            rw [e_ProgramReader_parts_32, jif_t (show (0 : Int32) ≤ oO (some v) from nI_pos' (by omega))]
          | none =>
            rw [hv] at e47
            refine ⟨_, eR_t F1 (eR_c eCc_now), cSt_f (fF_now hs2 a2), ?_⟩
            have e67 : jval (d + 3) 72 67 [.ref 35, .int (hV c N (pSk c N i)), .int (nI t), jjunk] [] (jGs L g, I1, J) = some (none, (jGs L g, ju (ju I1 35 3 (nI 1)) 35 4 (I1 35 2), J)) := by
              rw [e_ProgramReader_parts_67, e_ProgramReader_parts_68, jif_t rfl, c_fail_t (d + 2) L g g1.2.2, jcV_some, e_ProgramReader_parts_77]
            rw [e47 rfl, e_ProgramReader_parts_47, jif_f (by rw [show (39 : Int32) = nI 39 from rfl, hV_pCh hc (by omega)]; exact h39)]
            by_cases h5 : pCh c N i = 59
            · rw [jif_t (by rw [show (59 : Int32) = nI 59 from rfl, hV_pCh hc (by omega)]; exact h5), jif_t (show nI t ≤ (0 : Int32) from nI_le (a := t) (b := 0) (by omega) (by omega)), e67]
            · rw [jif_f (by rw [show (59 : Int32) = nI 59 from rfl, hV_pCh hc (by omega)]; exact h5), e67]
theorem c_parts {c : Nat → Nat} {N i : Nat} {q : Nat → Nat → Nat} {I : Nat → Nat → Int32} (hN : N ≤ 120) (hc : ∀ i, i < N → c i < 128) (hg : g.2.2.1 35 0 = some 2) (h : lG c N i I) (hq : cQ q I) (h8 : q 35 8 ≤ i) (h0 : 0 < i) : ∃ I', eR I I' ∧ cSt c N (pPts c N (q 117 44) (N + 1) i q) I' ∧ jcall (d + 4) 72 [.ref 35] (jGs L g, I, J) = some (none, (jGs L g, I', J)) := by
  obtain ⟨I', a1, a2, a3⟩ := c_pt d L g (J := J) (fr := q 117 44) hN hc hg (N + 1) i q I 0 (-1) (by omega) h hq h8 h0 rfl (by decide)
  refine ⟨I', a1, a2, ?_⟩
  rw [c_ProgramReader_parts, e_ProgramReader_parts_0, show (0 : Int32) = nI 0 from rfl]
  exact a3
end MM

/-! THE CLASS: a node for a statement that begins with a variable -/
set_option maxRecDepth 100000
def sgO (s : Nat) : Nat := if s = 1 then 61 else if s = 2 then 47 else if s = 3 then 33 else if s = 4 then 63 else if s = 5 then 43 else if s = 6 then 35 else 42
/-- the node n of step a -/
def nS (q : Nat → Nat → Nat) (I : Nat → Nat → Int32) (n a : Nat) : Prop := I n 0 = nI (sgO (q 138 a)) ∧ (q 138 a = 1 → I n 1 = nI (q 141 a) ∧ I n 3 = nI (q 1000 a)) ∧ (q 138 a = 2 → I n 1 = nI (q 139 a) ∧ I n 2 = nI (q 140 a) ∧ I n 3 = oL (q 141 a)) ∧ (q 138 a = 3 → I n 1 = nI (q 139 a) ∧ I n 2 = nI (q 140 a) ∧ I n 3 = nI (q 141 a)) ∧ (q 138 a = 4 ∨ q 138 a = 6 → I n 1 = nI (q 139 a) ∧ I n 2 = nI (q 140 a))
/-- what the reading leaves: cells to C, but the reader's own and the next of l -/
def fN (L C l : Nat) (g g' : jG) (I I' : Nat → Nat → Int32) (J J' : Nat → Nat → Int64) : Prop := (∀ a k, a ≤ C → ¬ (a = 37 ∨ a = 38 ∨ (a = 35 ∧ k ≠ 1)) → I' a k = I a k) ∧ (∀ a, a ≤ C → J' a = J a) ∧ (∀ a, a ≤ C → gK L g' a = gK L g a ∧ gN L g' a = gN L g a) ∧ (∀ a k, a ≤ C → ¬ (a = l ∧ k = 6) → g'.2.2.1 a k = g.2.2.1 a k) ∧ g.2.2.2.1 ≤ g'.2.2.2.1 ∧ g'.2.2.2.2 + 7 * g.2.2.2.1 = g.2.2.2.2 + 7 * g'.2.2.2.1
theorem fN_t {L C l : Nat} {g g1 g2 : jG} {I I1 I2 : Nat → Nat → Int32} {J J1 J2 : Nat → Nat → Int64} (h : fN L C l g g1 I I1 J J1) (h' : fN L C l g1 g2 I1 I2 J1 J2) : fN L C l g g2 I I2 J J2 := by
  obtain ⟨a1, a2, a3, a4, a5, a6⟩ := h
  obtain ⟨b1, b2, b3, b4, b5, b6⟩ := h'
  exact ⟨fun a k ha hx => (b1 a k ha hx).trans (a1 a k ha hx), fun a ha => (b2 a ha).trans (a2 a ha), fun a ha => ⟨(b3 a ha).1.trans (a3 a ha).1, (b3 a ha).2.trans (a3 a ha).2⟩, fun a k ha hx => (b4 a k ha hx).trans (a4 a k ha hx), by omega, by omega⟩
theorem fN_w {L C C' l : Nat} {g g' : jG} {I I' : Nat → Nat → Int32} {J J' : Nat → Nat → Int64} (h : fN L C l g g' I I' J J') (hC : C' ≤ C) : fN L C' l g g' I I' J J' := by
  obtain ⟨a1, a2, a3, a4, a5, a6⟩ := h
  exact ⟨fun a k ha hx => a1 a k (by omega) hx, fun a ha => a2 a (by omega), fun a ha => a3 a (by omega), fun a k ha hx => a4 a k (by omega) hx, a5, a6⟩
theorem fN_l {L C l : Nat} {g g' : jG} {I I' : Nat → Nat → Int32} {J J' : Nat → Nat → Int64} (h : fN L C 0 g g' I I' J J') (h0 : g'.2.2.1 0 6 = g.2.2.1 0 6) : fN L C l g g' I I' J J' := by
  obtain ⟨a1, a2, a3, a4, a5, a6⟩ := h
  refine ⟨a1, a2, a3, fun a k ha hx => ?_, a5, a6⟩
  by_cases h6 : a = 0 ∧ k = 6
  · rw [h6.1, h6.2]; exact h0
  · exact a4 a k ha h6
theorem fN_e {L C l : Nat} {g : jG} {I I' : Nat → Nat → Int32} {J : Nat → Nat → Int64} (h : ∀ a k, a ≤ C → ¬ (a = 37 ∨ a = 38 ∨ (a = 35 ∧ k ≠ 1)) → I' a k = I a k) : fN L C l g g I I' J J := ⟨h, fun _ _ => rfl, fun _ _ => ⟨rfl, rfl⟩, fun _ _ _ _ => rfl, Nat.le_refl _, rfl⟩
theorem fN_r {L C l : Nat} {g : jG} {I : Nat → Nat → Int32} {J : Nat → Nat → Int64} : fN L C l g g I I J J := fN_e (fun _ _ _ _ => rfl)
theorem lG_n {c : Nat → Nat} {N i : Nat} {I I' : Nat → Nat → Int32} (h : lG c N i I) (hI : ∀ a k, a ≤ 168 → I' a k = I a k) : lG c N i I' := ⟨h.1, lC_cg h.2.1 (hI _ _ (by omega)) (fun j => hI _ _ (by omega)) (hI _ _ (by omega)), (hI _ _ (by omega)).trans h.2.2⟩
theorem fF_n {c : Nat → Nat} {N p : Nat} {I I' : Nat → Nat → Int32} (h : fF c N p I) (hI : ∀ a k, a ≤ 168 → I' a k = I a k) : fF c N p I' := by
  obtain ⟨⟨i, hi, h1⟩, h2, h3⟩ := h
  exact ⟨⟨i, hi, lC_cg h1 (hI _ _ (by omega)) (fun j => hI _ _ (by omega)) (hI _ _ (by omega))⟩, (hI _ _ (by omega)).trans h2, (hI _ _ (by omega)).trans h3⟩
theorem cQ_n {q : Nat → Nat → Nat} {I I' : Nat → Nat → Int32} (h : cQ q I) (hI : ∀ a k, a ≤ 168 → I' a k = I a k) : cQ q I' := ⟨(hI _ _ (by omega)).trans h.1, (hI _ _ (by omega)).trans h.2.1, (hI _ _ (by omega)).trans h.2.2.1, fun k hk => (hI _ _ (by omega)).trans (h.2.2.2.1 k hk), fun k hk => (hI _ _ (by omega)).trans (h.2.2.2.2 k hk)⟩
theorem cQ_come {q : Nat → Nat → Nat} {s a b e : Nat} {I : Nat → Nat → Int32} (h : cQ q I) : cQ (qCome q s a b e) I := cQ_q h (qCome_r (by omega) (by omega)) (qCome_r (by omega) (by omega)) (qCome_r (by omega) (by omega)) (fun k _ => qCome_r (by omega) (by omega)) (fun k _ => qCome_r (by omega) (by omega))
theorem cQ_1000 {q : Nat → Nat → Nat} {s x : Nat} {I : Nat → Nat → Int32} (h : cQ q I) : cQ (ju q 1000 s x) I := cQ_q h (zu_a (by omega)) (zu_a (by omega)) (zu_a (by omega)) (fun k _ => zu_a (by omega)) (fun k _ => zu_a (by omega))
theorem qCome_at (q : Nat → Nat → Nat) (s a b e : Nat) : qCome q s a b e 138 (q 117 35) = s ∧ qCome q s a b e 139 (q 117 35) = a ∧ qCome q s a b e 140 (q 117 35) = b ∧ qCome q s a b e 141 (q 117 35) = e := by
  unfold qCome
  refine ⟨?_, ?_, ?_, ?_⟩ <;> simp (disch := omega) only [zu_a, zu_at]
theorem nS_come {q : Nat → Nat → Nat} {I : Nat → Nat → Int32} {n s a b e : Nat} (h0 : I n 0 = nI (sgO s)) (h1 : s ≠ 1) (h2 : s = 2 → I n 1 = nI a ∧ I n 2 = nI b ∧ I n 3 = oL e) (h3 : s = 3 → I n 1 = nI a ∧ I n 2 = nI b ∧ I n 3 = nI e) (h4 : s = 4 ∨ s = 6 → I n 1 = nI a ∧ I n 2 = nI b) : nS (qCome q s a b e) I n (q 117 35) := by
  obtain ⟨y1, y2, y3, y4⟩ := qCome_at q s a b e
  unfold nS
  rw [y1, y2, y3, y4]
  exact ⟨h0, fun h => absurd h h1, h2, h3, h4⟩
theorem pLet_35 (c : Nat → Nat) (N : Nat) : ∀ f i q, (pLet c N f i q).2.2 117 35 = q 117 35 ∧ (pLet c N f i q).2.2 117 41 = q 117 41 ∧ (pLet c N f i q).2.2 117 42 = q 117 42 := by
  intro f
  induction f with
  | zero => intro i q; exact ⟨rfl, rfl, rfl⟩
  | succ f ih =>
    intro i q
    have e : ∀ x k, qCode q x 117 k = q 117 k := fun x k => qCode_r (by omega) (by omega)
    unfold pLet
    by_cases h : pCh c N i = 39
    · rw [if_pos h]; exact ⟨e 39 _, e 39 _, e 39 _⟩
    · rw [if_neg h]
      cases lO3 (pCh c N i) with
      | none => exact ⟨rfl, rfl, rfl⟩
      | some l =>
        have e' : ∀ k, k ≠ 48 → qCode (qTold q l) (pCh c N i) 117 k = q 117 k := fun k hk => by
          rw [qCode_r (by omega) (by omega)]
          unfold qTold
          rw [zu_k hk, zu_a (by omega)]
        obtain ⟨y1, y2, y3⟩ := ih (pSk c N i + 1) (qCode (qTold q l) (pCh c N i))
        exact ⟨y1.trans (e' _ (by omega)), y2.trans (e' _ (by omega)), y3.trans (e' _ (by omega))⟩
theorem pPts_35 (c : Nat → Nat) (N fr : Nat) : ∀ f i q, (pPts c N fr f i q).2.2 117 35 = q 117 35 := by
  intro f
  induction f with
  | zero => intro i q; rfl
  | succ f ih =>
    intro i q
    have e : ∀ x, qCode q x 117 35 = q 117 35 := fun x => qCode_r (by omega) (by omega)
    have ep : ∀ (q : Nat → Nat → Nat) s a b, qPart q s a b 117 35 = q 117 35 := fun q s a b => by
      unfold qPart
      simp (disch := omega) only [zu_a, zu_k]
    have ec : ∀ (q : Nat → Nat → Nat) x, qCode q x 117 35 = q 117 35 := fun q x => qCode_r (by omega) (by omega)
    unfold pPts
    by_cases h : pCh c N i = 39
    · rw [if_pos h]
      have hl := (pLet_35 c N (N + 1) (pSk c N i + 1) (qCode q 39)).1
      rcases hp : pLet c N (N + 1) (pSk c N i + 1) (qCode q 39) with ⟨b, i', q'⟩
      rw [hp] at hl
      have hl' : q' 117 35 = q 117 35 := hl.trans (e 39)
      cases b
      · exact hl'
      · show (pPts c N fr f i' (qPart q' 1 (q 117 48) (q' 117 48 - q 117 48))).2.2 117 35 = _
        rw [ih, ep]; exact hl'
    · rw [if_neg h]
      by_cases h2 : 48 ≤ pCh c N i ∧ pCh c N i ≤ 51
      · rw [if_pos h2, ih, ec, ep]
      · rw [if_neg h2]
        by_cases h3 : pCh c N i = 59 ∧ fr < q 117 44
        · rw [if_pos h3]; exact e 59
        · rw [if_neg h3]
          cases vO (pCh c N i) with
          | none => rfl
          | some v =>
            show (pPts c N fr f (pSk c N i + 1) (qCode (qPart q 0 v 0) (pCh c N i))).2.2 117 35 = _
            rw [ih, ec, ep]
section MM
variable (d L : Nat) (g : jG)
theorem c_ch_81f {c : Nat → Nat} {N p n : Nat} {x : Int32} {I : Nat → Nat → Int32} {J : Nat → Nat → Int64} (hN : N ≤ 120) (hc : ∀ i, i < N → c i < 128) (hg : g.2.2.1 35 0 = some 2) (hn : 171 ≤ n) (kn : (jGs L g).1 n = 4) (h : fF c N p I) : ∃ I', (∀ a k, a ≠ n → ¬ (a = 35 ∧ (k = 2 ∨ k = 3 ∨ k = 4)) → I' a k = I a k) ∧ fF c N p I' ∧ jval (d + 2) 71 81 [.ref 35, jjunk, jjunk, .ref n] [.int x, .ref n] (jGs L g, I, J) = some (some (.ref n), (jGs L g, I', J)) := by
  obtain ⟨I2, b1, b2, b3⟩ := c_take_f d L g (J := J) (x := 59) hN hc hg (by omega) (fF_n h (I' := ju I n 3 x) (fun a k ha => zu_a (by omega)))
  refine ⟨I2, fun a k ha hx => by rw [b1 a k hx, zu_a ha], b2, ?_⟩
  rw [e_ProgramReader_change_81, if_pos kn, show (59 : Int32) = nI 59 from rfl, b3, jcV_some, e_ProgramReader_change_90, e_ProgramReader_change_97]
theorem c_ch_72f {c : Nat → Nat} {N p n : Nat} {x : Int32} {I : Nat → Nat → Int32} {J : Nat → Nat → Int64} (hN : N ≤ 120) (hc : ∀ i, i < N → c i < 128) (hg : g.2.2.1 35 0 = some 2) (hn : 171 ≤ n) (kn : (jGs L g).1 n = 4) (h : fF c N p I) : ∃ I', (∀ a k, a ≠ n → ¬ (a = 35 ∧ (k = 2 ∨ k = 3 ∨ k = 4)) → I' a k = I a k) ∧ fF c N p I' ∧ jval (d + 2) 71 72 [.ref 35, jjunk, jjunk, .ref n] [.int x, .ref n] (jGs L g, I, J) = some (some (.ref n), (jGs L g, I', J)) := by
  obtain ⟨I2, w, b1, b2, b3⟩ := c_letter_f d L g (J := J) (b := 1) hN hc hg (by omega) (fF_n h (I' := ju I n 2 x) (fun a k ha => zu_a (by omega)))
  obtain ⟨I3, e1, e2, e3⟩ := c_ch_81f d L g (J := J) (x := w) hN hc hg hn kn b2
  refine ⟨I3, fun a k ha hx => by rw [e1 a k ha hx, b1 a k hx, zu_a ha], e2, ?_⟩
  rw [e_ProgramReader_change_72, if_pos kn, show (1 : Int32) = nI 1 from rfl, b3, jcI_some, e3]
theorem c_change {c : Nat → Nat} {N i v : Nat} {q : Nat → Nat → Nat} {I : Nat → Nat → Int32} {J : Nat → Nat → Int64} (hN : N ≤ 120) (hc : ∀ i, i < N → c i < 128) (hg : g.2.2.1 35 0 = some 2) (h168 : 170 ≤ g.2.2.2.1) (hC : g.2.2.2.1 + 1 ≤ 600000) (hQ : g.2.2.2.2 + 7 ≤ 7302250) (h : lG c N i I) (hq : cQ q I) (h8 : q 35 8 ≤ i) : ∃ g' I' J', fN L g.2.2.2.1 0 g g' I I' J J' ∧ g'.2.2.2.1 = g.2.2.2.1 + 1 ∧ cSt c N (pVar c N v i q) I' ∧ gK L g' (g.2.2.2.1 + 1) = 4 ∧ (∀ k, g'.2.2.1 (g.2.2.2.1 + 1) k = none) ∧ g'.2.2.1 0 6 = g.2.2.1 0 6 ∧ ((pVar c N v i q).1 = true → nS (pVar c N v i q).2.2 I' (g.2.2.2.1 + 1) (q 117 35)) ∧ jcall (d + 5) 71 [.ref 35, .int (nI v)] (jGs L g, I, J) = some (some (.ref (g.2.2.2.1 + 1)), (jGs L g', I', J')) := by
  obtain ⟨g1, x1, c1, q1, kn1, ln1, o1, r1, z1⟩ := jga_all L g 4 0 7 h168
  obtain ⟨hs1, hs2⟩ := pSk_le (c := c) h.1
  obtain ⟨I1, a1, a2, a3⟩ := c_peek (d + 3) L g (J := J) hN hc hg h.1 h.2.1
  have G1 : lG c N (pSk c N i) I1 := ⟨hs2, a2, by rw [a1 _ _ (by omega)]; exact h.2.2⟩
  have Q1 := cQ_c hq (eCc_2 a1)
  have hg1 : g1.2.2.1 35 0 = some 2 := (r1 35 0 (by omega)).trans hg
  generalize hCd : g.2.2.2.1 = C at *
  generalize hn : C + 1 = n at *
  -- the node is made
  have hI2 : ∀ a k, a ≤ 168 → ju (ju (jup I1 n (fun _ => nI 0)) n 0 (hV c N (pSk c N i))) n 1 (nI v) a k = I1 a k := fun a k ha => by rw [zu_a (by omega), zu_a (by omega), jup_n (by omega)]
  generalize hI2d : ju (ju (jup I1 n (fun _ => nI 0)) n 0 (hV c N (pSk c N i))) n 1 (nI v) = I2 at hI2
  have F : ∀ I', (∀ a k, a ≤ C → ¬ (a = 37 ∨ a = 38 ∨ (a = 35 ∧ k ≠ 1)) → I' a k = I2 a k) → fN L C 0 g g1 I I' J (jup J n (fun _ => 0)) := fun I' hI' => by
    refine ⟨fun a k ha hx => ?_, fun a ha => jup_n (by omega), fun a ha => o1 a (by omega), fun a k ha _ => r1 a k (by omega), by omega, by omega⟩
    rw [hI' a k ha hx, ← hI2d, zu_a (by omega), zu_a (by omega), jup_n (by omega), a1 a k (by omega)]
  have start : jcall (d + 5) 71 [.ref 35, .int (nI v)] (jGs L g, I, J) = jif (hV c N (pSk c N i) = (61 : Int32)) (if (jGs L g1).1 n = 4 then (jcV (jcall (d + 4) 72 [.ref 35] (jGs L g1, ju (ju I2 35 2 (I2 35 2 + (1 : Int32))) n 3 (ju I2 35 2 (I2 35 2 + (1 : Int32)) 35 8), jup J n (fun _ => 0))) (fun S1 => jval (d + 4) 71 47 [jjunk, jjunk, jjunk, .ref n] [] S1)) else none) (jif (hV c N (pSk c N i) = (47 : Int32)) (jcI (jcall (d + 4) 78 [.ref 35, .int (0 : Int32)] (jGs L g1, ju I2 35 2 (I2 35 2 + (1 : Int32)), jup J n (fun _ => 0))) (fun r3 S2 => jval (d + 4) 71 72 [.ref 35, jjunk, jjunk, .ref n] [.int r3, .ref n] S2)) (jcV (jcall (d + 4) 81 [.ref 35] (jGs L g1, I2, jup J n (fun _ => 0))) (fun S4 => jval (d + 4) 71 97 [jjunk, jjunk, jjunk, .ref n] [] S4))) := by
    rw [c_ProgramReader_change, e_ProgramReader_change_0, a3, jcI_some, e_ProgramReader_change_4, jrm_t (by omega) hQ, cond_true, x1, hCd, hn, e_ProgramReader_change_8, c_Node_init, e_Node_init_0, if_pos kn1, jcV_some, e_ProgramReader_change_13, if_pos kn1, hI2d]
  have G2 : lG c N (pSk c N i) I2 := lG_n G1 hI2
  have Q2 : cQ q I2 := cQ_n Q1 hI2
  have I2n : I2 n 0 = hV c N (pSk c N i) ∧ I2 n 1 = nI v := by
    rw [← hI2d]
    exact ⟨by rw [zu_k (by omega), zu_at], zu_at _ _ _ _⟩
  rw [start]
  unfold pVar
  by_cases h61 : pCh c N i = 61
  · have hlt := pCh_lt (c := c) (N := N) (i := i) (by omega)
    rw [if_pos h61, jif_t (by rw [show (61 : Int32) = nI 61 from rfl, hV_pCh hc (by omega)]; exact h61), if_pos kn1, G2.2.1.2.2, nI_1]
    have hI3 : ∀ a k, a ≤ 168 → ju (ju I2 35 2 (nI (pSk c N i + 1))) n 3 (ju I2 35 2 (nI (pSk c N i + 1)) 35 8) a k = ju I2 35 2 (nI (pSk c N i + 1)) a k := fun a k ha => by rw [zu_a (by omega)]
    have G3 : lG c N (pSk c N i + 1) (ju (ju I2 35 2 (nI (pSk c N i + 1))) n 3 (ju I2 35 2 (nI (pSk c N i + 1)) 35 8)) := lG_n ⟨by omega, lC_mv G2.2.1, by rw [zu_k (by omega)]; exact G2.2.2⟩ hI3
    have Q3 : cQ q (ju (ju I2 35 2 (nI (pSk c N i + 1))) n 3 (ju I2 35 2 (nI (pSk c N i + 1)) 35 8)) := cQ_n (cQ_c Q2 (fun a k hx => ju_ne (by omega))) hI3
    obtain ⟨I4, b1, b2, b3⟩ := c_parts d L g1 (J := jup J n (fun _ => 0)) hN hc hg1 G3 Q3 (by omega) (by omega)
    have n4 : I4 n 0 = nI 61 ∧ I4 n 1 = nI v ∧ I4 n 3 = nI (q 35 8) := by
      obtain ⟨-, hv⟩ := hV_some (c := c) (N := N) (i := i) (by omega)
      refine ⟨?_, ?_, ?_⟩
      · rw [b1 _ _ (by omega), zu_k (by omega), zu_a (by omega), I2n.1, hv, h61]
      · rw [b1 _ _ (by omega), zu_k (by omega), zu_a (by omega), I2n.2]
      · rw [b1 _ _ (by omega), zu_at, zu_k (by omega)]; exact Q2.2.2.1
    refine ⟨g1, I4, jup J n (fun _ => 0), F I4 (fun a k ha hx => ?_), c1, ?_, kn1, z1, r1 0 6 (by omega), ?_, ?_⟩
    · rw [b1 a k hx, ju_ne (by omega), ju_ne (by omega)]
    · rcases hp : pPts c N (q 117 44) (N + 1) (pSk c N i + 1) q with ⟨b, i', q'⟩
      rw [hp] at b2
      cases b
      · exact cSt_f (b2.2 rfl)
      · obtain ⟨y1, y2, y3⟩ := b2.1 rfl
        refine cSt_t y1 (cQ_1000 (cQ_come y2)) ?_
        rw [zu_a (by omega), qCome_r (by omega) (by omega)]
        exact y3
    · intro ht
      have hk35 : (pPts c N (q 117 44) (N + 1) (pSk c N i + 1) q).2.2 117 35 = q 117 35 := pPts_35 c N _ _ _ _
      rcases hp : pPts c N (q 117 44) (N + 1) (pSk c N i + 1) q with ⟨b, i', q'⟩
      rw [hp] at ht hk35
      cases b
      · exact Bool.noConfusion ht
      · have e35 : q' 117 35 = q 117 35 := hk35
        show nS (ju (qCome q' 1 (q 117 44) (q' 117 44) v) 1000 (q 117 35) (q 35 8)) I4 n (q 117 35)
        obtain ⟨y1, y2, y3, y4⟩ := qCome_at q' 1 (q 117 44) (q' 117 44) v
        rw [e35] at y1 y2 y3 y4
        unfold nS
        simp (disch := omega) only [zu_a, zu_at]
        rw [y1, y2, y3, y4]
        exact ⟨n4.1, fun _ => ⟨n4.2.1, n4.2.2⟩, fun h => absurd h (by omega), fun h => absurd h (by omega), fun h => absurd h (by omega)⟩
    · rw [b3, jcV_some, e_ProgramReader_change_47, e_ProgramReader_change_97]
  · rw [if_neg h61, jif_f (by rw [show (61 : Int32) = nI 61 from rfl, hV_pCh hc (by omega)]; exact h61)]
    by_cases h47 : pCh c N i = 47
    · have hlt := pCh_lt (c := c) (N := N) (i := i) (by omega)
      obtain ⟨-, hv⟩ := hV_some (c := c) (N := N) (i := i) (by omega)
      rw [if_pos h47, jif_t (by rw [show (47 : Int32) = nI 47 from rfl, hV_pCh hc (by omega)]; exact h47), G2.2.1.2.2, nI_1, show (0 : Int32) = nI 0 from rfl]
      have G3 : lG c N (pSk c N i + 1) (ju I2 35 2 (nI (pSk c N i + 1))) := ⟨by omega, lC_mv G2.2.1, by rw [zu_k (by omega)]; exact G2.2.2⟩
      have Q3 : cQ q (ju I2 35 2 (nI (pSk c N i + 1))) := cQ_c Q2 (fun a k hx => ju_ne (by omega))
      have N3 : ju I2 35 2 (nI (pSk c N i + 1)) n 0 = nI 47 ∧ ju I2 35 2 (nI (pSk c N i + 1)) n 1 = nI v := ⟨by rw [zu_a (by omega), I2n.1, hv, h47], by rw [zu_a (by omega), I2n.2]⟩
      have F3 : ∀ I', (∀ a k, a ≤ C → ¬ (a = 37 ∨ a = 38 ∨ (a = 35 ∧ k ≠ 1)) → I' a k = ju I2 35 2 (nI (pSk c N i + 1)) a k) → fN L C 0 g g1 I I' J (jup J n (fun _ => 0)) := fun I' hI' => F I' (fun a k ha hx => by rw [hI' a k ha hx, ju_ne (by omega)])
      generalize ju I2 35 2 (nI (pSk c N i + 1)) = I3 at G3 Q3 N3 F3
      generalize hj : pSk c N i + 1 = j at G3
      have hn9 : 171 ≤ n := by omega
      cases h2 : nO 2 (pCh c N j) with
      | none =>
        obtain ⟨I4, b1, b2, b3⟩ := c_letter_n (d + 2) L g1 (J := jup J n (fun _ => 0)) (b := 0) hN hc hg1 (by omega) G3 h2
        obtain ⟨I5, e1, e2, e3⟩ := c_ch_72f (d + 2) L g1 (J := jup J n (fun _ => 0)) (x := -1) hN hc hg1 hn9 kn1 b2
        refine ⟨g1, I5, jup J n (fun _ => 0), F3 I5 (fun a k ha hx => by rw [e1 a k (by omega) (by omega), b1 a k (by omega)]), c1, cSt_f e2, kn1, z1, r1 0 6 (by omega), fun h => Bool.noConfusion h, ?_⟩
        rw [b3, jcI_some, e3]
      | some a =>
        have jlt := pCh_lt (c := c) (N := N) (i := j) (by have := (nO_lt h2).2; omega)
        obtain ⟨I4, b1, b2, b3⟩ := c_letter_t (d + 2) L g1 (J := jup J n (fun _ => 0)) (b := 0) hN hc hg1 (by omega) G3 h2
        rw [b3, jcI_some, e_ProgramReader_change_72, if_pos kn1, show (1 : Int32) = nI 1 from rfl]
        have hI5 : ∀ a' k, a' ≤ 168 → ju I4 n 2 (oL a) a' k = I4 a' k := fun a' k ha => zu_a (by omega)
        have Q5 := cQ_n (cQ_c Q3 b1) hI5
        have j1 := (pSk_le (c := c) G3.1).1
        generalize hk : pSk c N j + 1 = k at b2
        have G5 := lG_n b2 hI5
        have a3' : a < 3 := by rw [nO_2] at h2; exact (lO3_lt h2).1
        have N5 : ju I4 n 2 (oL a) n 0 = nI 47 ∧ ju I4 n 2 (oL a) n 1 = nI v ∧ ju I4 n 2 (oL a) n 2 = nI a := ⟨by rw [zu_k (by omega), b1 _ _ (by omega)]; exact N3.1, by rw [zu_k (by omega), b1 _ _ (by omega)]; exact N3.2, by rw [zu_at]; unfold oL; rw [if_neg (by omega)]⟩
        have F5 : ∀ I', (∀ a' k, a' ≤ C → ¬ (a' = 37 ∨ a' = 38 ∨ (a' = 35 ∧ k ≠ 1)) → I' a' k = ju I4 n 2 (oL a) a' k) → fN L C 0 g g1 I I' J (jup J n (fun _ => 0)) := fun I' hI' => F3 I' (fun a' k ha hx => by rw [hI' a' k ha hx, zu_a (by omega), b1 a' k (by omega)])
        generalize ju I4 n 2 (oL a) = I5 at G5 Q5 N5 F5
        show ∃ g' I' J', fN L C 0 g g' I I' J J' ∧ g'.2.2.2.1 = n ∧ cSt c N (match nO 3 (pCh c N k) with
          | none => (false, pSk c N k, q)
          | some b => if pCh c N (pSk c N k + 1) = 59 then (true, pSk c N (pSk c N k + 1) + 1, qCome q 2 v a b) else (false, pSk c N (pSk c N k + 1), q)) I' ∧ gK L g' n = 4 ∧ (∀ k, g'.2.2.1 n k = none) ∧ g'.2.2.1 0 6 = g.2.2.1 0 6 ∧ ((match nO 3 (pCh c N k) with
          | none => (false, pSk c N k, q)
          | some b => if pCh c N (pSk c N k + 1) = 59 then (true, pSk c N (pSk c N k + 1) + 1, qCome q 2 v a b) else (false, pSk c N (pSk c N k + 1), q)).1 = true → nS (match nO 3 (pCh c N k) with
          | none => (false, pSk c N k, q)
          | some b => if pCh c N (pSk c N k + 1) = 59 then (true, pSk c N (pSk c N k + 1) + 1, qCome q 2 v a b) else (false, pSk c N (pSk c N k + 1), q)).2.2 I' n (q 117 35)) ∧ _
        cases h3 : nO 3 (pCh c N k) with
        | none =>
          obtain ⟨I6, e1, e2, e3⟩ := c_letter_n (d + 2) L g1 (J := jup J n (fun _ => 0)) (b := 1) hN hc hg1 (by omega) G5 h3
          obtain ⟨I7, f1, f2, f3⟩ := c_ch_81f (d + 2) L g1 (J := jup J n (fun _ => 0)) (x := -1) hN hc hg1 hn9 kn1 e2
          refine ⟨g1, I7, jup J n (fun _ => 0), F5 I7 (fun a k ha hx => by rw [f1 a k (by omega) (by omega), e1 a k (by omega)]), c1, cSt_f f2, kn1, z1, r1 0 6 (by omega), fun h => Bool.noConfusion h, ?_⟩
          rw [e3, jcI_some, f3]
        | some b =>
          have klt := pCh_lt (c := c) (N := N) (i := k) (by have := (nO_lt h3).2; omega)
          obtain ⟨I6, e1, e2, e3⟩ := c_letter_t (d + 2) L g1 (J := jup J n (fun _ => 0)) (b := 1) hN hc hg1 (by omega) G5 h3
          rw [e3, jcI_some, e_ProgramReader_change_81, if_pos kn1, show (59 : Int32) = nI 59 from rfl]
          have hI7 : ∀ a' k, a' ≤ 168 → ju I6 n 3 (oL b) a' k = I6 a' k := fun a' k ha => zu_a (by omega)
          have Q7 := cQ_n (cQ_c Q5 e1) hI7
          have k1 := (pSk_le (c := c) G5.1).1
          generalize hm : pSk c N k + 1 = m at e2
          have G7 := lG_n e2 hI7
          have N7 : ju I6 n 3 (oL b) n 0 = nI 47 ∧ ju I6 n 3 (oL b) n 1 = nI v ∧ ju I6 n 3 (oL b) n 2 = nI a ∧ ju I6 n 3 (oL b) n 3 = oL b := ⟨by rw [zu_k (by omega), e1 _ _ (by omega)]; exact N5.1, by rw [zu_k (by omega), e1 _ _ (by omega)]; exact N5.2.1, by rw [zu_k (by omega), e1 _ _ (by omega)]; exact N5.2.2, zu_at _ _ _ _⟩
          have F7 : ∀ I', (∀ a' k, a' ≤ C → ¬ (a' = 37 ∨ a' = 38 ∨ (a' = 35 ∧ k ≠ 1)) → I' a' k = ju I6 n 3 (oL b) a' k) → fN L C 0 g g1 I I' J (jup J n (fun _ => 0)) := fun I' hI' => F5 I' (fun a' k ha hx => by rw [hI' a' k ha hx, zu_a (by omega), e1 a' k (by omega)])
          generalize ju I6 n 3 (oL b) = I7 at G7 Q7 N7 F7
          show ∃ g' I' J', fN L C 0 g g' I I' J J' ∧ g'.2.2.2.1 = n ∧ cSt c N (if pCh c N m = 59 then (true, pSk c N m + 1, qCome q 2 v a b) else (false, pSk c N m, q)) I' ∧ gK L g' n = 4 ∧ (∀ k, g'.2.2.1 n k = none) ∧ g'.2.2.1 0 6 = g.2.2.1 0 6 ∧ ((if pCh c N m = 59 then (true, pSk c N m + 1, qCome q 2 v a b) else (false, pSk c N m, q)).1 = true → nS (if pCh c N m = 59 then (true, pSk c N m + 1, qCome q 2 v a b) else (false, pSk c N m, q)).2.2 I' n (q 117 35)) ∧ _
          obtain ⟨m1, m2⟩ := pSk_le (c := c) G7.1
          by_cases h59 : pCh c N m = 59
          · have mlt := pCh_lt (c := c) (N := N) (i := m) (by omega)
            obtain ⟨I8, f1, f2, f3⟩ := c_take_t (d + 2) L g1 (J := jup J n (fun _ => 0)) hN hc hg1 (show 59 < 128 by omega) G7 h59
            rw [if_pos h59]
            refine ⟨g1, I8, jup J n (fun _ => 0), F7 I8 (fun a k ha hx => by rw [f1 a k (by omega)]), c1, cSt_t f2 (cQ_come (cQ_c Q7 f1)) (by rw [qCome_r (by omega) (by omega)]; omega), kn1, z1, r1 0 6 (by omega), fun _ => ?_, ?_⟩
            · have fn : ∀ k, I8 n k = I7 n k := fun k => f1 n k (by omega)
              exact nS_come (by rw [fn]; exact N7.1) (by omega) (fun _ => ⟨by rw [fn]; exact N7.2.1, by rw [fn]; exact N7.2.2.1, by rw [fn]; exact N7.2.2.2⟩) (fun h => absurd h (by omega)) (fun h => absurd h (by omega))
            · rw [f3, jcV_some, e_ProgramReader_change_90, e_ProgramReader_change_97]
          · obtain ⟨I8, f1, f2, f3⟩ := c_take_n (d + 2) L g1 (J := jup J n (fun _ => 0)) hN hc hg1 (show 59 < 128 by omega) G7 h59
            rw [if_neg h59]
            refine ⟨g1, I8, jup J n (fun _ => 0), F7 I8 (fun a k ha hx => by rw [f1 a k (by omega)]), c1, cSt_f f2, kn1, z1, r1 0 6 (by omega), fun h => Bool.noConfusion h, ?_⟩
            rw [f3, jcV_some, e_ProgramReader_change_90, e_ProgramReader_change_97]
    · rw [if_neg h47, jif_f (by rw [show (47 : Int32) = nI 47 from rfl, hV_pCh hc (by omega)]; exact h47), c_fail_t (d + 3) L g1 G2.2.2, jcV_some, e_ProgramReader_change_97]
      exact ⟨g1, _, jup J n (fun _ => 0), F _ (fun a k ha hx => by rw [ju_ne (by omega), ju_ne (by omega)]), c1, cSt_f (fF_now hs2 G2.2.1), kn1, z1, r1 0 6 (by omega), fun h => Bool.noConfusion h, rfl⟩
end MM

/-! THE CLASS: the signs of a program -/
set_option maxRecDepth 100000
def lC (c : Nat → Nat) (N i : Nat) (I : Nat → Nat → Int32) : Prop := I 35 1 = nI N ∧ (∀ j, j < N → I 2 j = nI (c j)) ∧ I 35 2 = nI i
/-- without a fault; with one -/
def lG (c : Nat → Nat) (N i : Nat) (I : Nat → Nat → Int32) : Prop := i ≤ N ∧ lC c N i I ∧ I 35 3 = nI 0
def fF (c : Nat → Nat) (N p : Nat) (I : Nat → Nat → Int32) : Prop := (∃ i, i ≤ N ∧ lC c N i I) ∧ I 35 3 = nI 1 ∧ I 35 4 = nI p
def eCc (I I' : Nat → Nat → Int32) : Prop := ∀ a k, ¬ (a = 35 ∧ (k = 2 ∨ k = 3 ∨ k = 4)) → I' a k = I a k
theorem eCc_t {I I1 I2 : Nat → Nat → Int32} (h : eCc I I1) (h' : eCc I1 I2) : eCc I I2 := fun a k hx => (h' a k hx).trans (h a k hx)
theorem eCc_r (I : Nat → Nat → Int32) : eCc I I := fun _ _ _ => rfl
theorem lC_cg {c : Nat → Nat} {N i : Nat} {I I' : Nat → Nat → Int32} (h : lC c N i I) (h1 : I' 35 1 = I 35 1) (h2 : ∀ j, I' 2 j = I 2 j) (h3 : I' 35 2 = I 35 2) : lC c N i I' := ⟨h1.trans h.1, fun j hj => (h2 j).trans (h.2.1 j hj), h3.trans h.2.2⟩
theorem lC_mv {c : Nat → Nat} {N i j : Nat} {I : Nat → Nat → Int32} (h : lC c N i I) : lC c N j (ju I 35 2 (nI j)) := ⟨by rw [zu_k (by omega)]; exact h.1, fun x hx => by rw [zu_a (by omega)]; exact h.2.1 x hx, zu_at _ _ _ _⟩
theorem jo_sm {α : Type} {a : Nat} {kn : α} {k : Nat → α} : jo (some a) kn k = k a := rfl
section MM
variable (d L : Nat) (g : jG) {J : Nat → Nat → Int64}
theorem c_peek0 {c : Nat → Nat} {N : Nat} (hN : N ≤ 120) (hc : ∀ i, i < N → c i < 128) (hg : g.2.2.1 35 0 = some 2) : ∀ f i (I : Nat → Nat → Int32), i + f = N → lC c N i I → ∃ I', (∀ a k, ¬ (a = 35 ∧ k = 2) → I' a k = I a k) ∧ lC c N (skp c f i) I' ∧ jval d 80 0 [.ref 35] [] (jGs L g, I, J) = some (some (.int (hV c N (skp c f i))), (jGs L g, I', J)) := by
  intro f
  induction f with
  | zero =>
    intro i I hi h
    refine ⟨I, fun _ _ _ => rfl, h, ?_⟩
    rw [e_ProgramReader_peek_0, h.1, h.2.2, jif_t (nI_le (by omega) (by omega)), e_ProgramReader_peek_38, h.1, h.2.2, jif_t (nI_le (by omega) (by omega)), e_ProgramReader_peek_62, show skp c 0 i = i from rfl, hV, if_neg (by omega)]
  | succ f ih =>
    intro i I hi h
    have hci := hc i (by omega)
    have k2 : (jGs L g).1 2 = 14 := rfl
    have n2 : (jGs L g).2.1 2 = 120 := rfl
    by_cases h32 : c i = 32
    · rw [show skp c (f + 1) i = skp c f (i + 1) by show (if c i = 32 then _ else _) = _; rw [if_pos h32]]
      obtain ⟨I', q1, q2, q3⟩ := ih (i + 1) (ju I 35 2 (nI (i + 1))) (by omega) (lC_mv h)
      refine ⟨I', fun a k hk => by rw [q1 a k hk, ju_ne (by omega)], q2, ?_⟩
      rw [e_ProgramReader_peek_0, h.1, h.2.2, jif_f (nI_ge (by omega) (by omega)), hg]
      rw [jo_sm, if_pos k2, n2, jin_nI (by omega) (by omega), nI_c (by omega), cond_true, h.2.1 i (by omega), jif_t (by rw [h32]; rfl), nI_1]
      exact q3
    · rw [show skp c (f + 1) i = i by show (if c i = 32 then _ else _) = _; rw [if_neg h32]]
      refine ⟨I, fun _ _ _ => rfl, h, ?_⟩
      have e38 : jval d 80 38 [.ref 35] [] (jGs L g, I, J) = some (some (.int (hV c N i)), (jGs L g, I, J)) := by
        rw [e_ProgramReader_peek_38, h.1, h.2.2, jif_f (nI_ge (by omega) (by omega)), hg]
        rw [jo_sm, if_pos k2, n2, jin_nI (by omega) (by omega), nI_c (by omega), cond_true, h.2.1 i (by omega), e_ProgramReader_peek_62, hV, if_pos (by omega)]
      rw [e_ProgramReader_peek_0, h.1, h.2.2, jif_f (nI_ge (by omega) (by omega)), hg]
      rw [jo_sm, if_pos k2, n2, jin_nI (by omega) (by omega), nI_c (by omega), cond_true, h.2.1 i (by omega), jif_f (show ¬ nI (c i) = (32 : Int32) from fun e => h32 ((nI_eq (b := 32) (by omega) (by omega)).mp e)), e38]
theorem c_peek {c : Nat → Nat} {N i : Nat} {I : Nat → Nat → Int32} (hN : N ≤ 120) (hc : ∀ i, i < N → c i < 128) (hg : g.2.2.1 35 0 = some 2) (hi : i ≤ N) (h : lC c N i I) : ∃ I', (∀ a k, ¬ (a = 35 ∧ k = 2) → I' a k = I a k) ∧ lC c N (pSk c N i) I' ∧ jcall (d + 1) 80 [.ref 35] (jGs L g, I, J) = some (some (.int (hV c N (pSk c N i))), (jGs L g, I', J)) := by
  rw [c_ProgramReader_peek]
  exact c_peek0 d L g hN hc hg (N - i) i I (by omega) h
theorem c_fail_t {I : Nat → Nat → Int32} (h : I 35 3 = nI 0) : jcall (d + 1) 81 [.ref 35] (jGs L g, I, J) = some (none, (jGs L g, ju (ju I 35 3 (nI 1)) 35 4 (I 35 2), J)) := by
  rw [c_ProgramReader_fail, e_ProgramReader_fail_0, jif_t (show I 35 3 = (0 : Int32) from h), jif_t (Or.inr rfl), e_ProgramReader_fail_20]
  rfl
theorem c_fail_f {I : Nat → Nat → Int32} (h : I 35 3 = nI 1) : jcall (d + 1) 81 [.ref 35] (jGs L g, I, J) = some (none, (jGs L g, I, J)) := by
  rw [c_ProgramReader_fail, e_ProgramReader_fail_0, jif_f (by rw [h]; decide), e_ProgramReader_fail_20]
/-- a fault at i, now -/
theorem fF_now {c : Nat → Nat} {N i : Nat} {I : Nat → Nat → Int32} (hi : i ≤ N) (h : lC c N i I) : fF c N i (ju (ju I 35 3 (nI 1)) 35 4 (I 35 2)) := ⟨⟨i, hi, lC_cg h (by rw [zu_k (by omega), zu_k (by omega)]) (fun j => by rw [zu_a (by omega), zu_a (by omega)]) (by rw [zu_k (by omega), zu_k (by omega)])⟩, by rw [zu_k (by omega), zu_at], by rw [zu_at]; exact h.2.2⟩
theorem eCc_now {I : Nat → Nat → Int32} {x y : Int32} : eCc I (ju (ju I 35 3 x) 35 4 y) := fun a k hx => by rw [ju_ne (by omega), ju_ne (by omega)]
theorem eCc_2 {I I' : Nat → Nat → Int32} (h : ∀ a k, ¬ (a = 35 ∧ k = 2) → I' a k = I a k) : eCc I I' := fun a k hx => h a k (by omega)
theorem c_variableOf {c : Nat → Nat} {N i : Nat} {I : Nat → Nat → Int32} (hc : ∀ i, i < N → c i < 128) : jcall (d + 1) 82 [.int (hV c N (pSk c N i))] (jGs L g, I, J) = some (some (.int (oO (vO (pCh c N i)))), (jGs L g, I, J)) := by
  have e : ∀ b : Int32, ∀ x, b = nI x → x < 128 → (hV c N (pSk c N i) = b) = (pCh c N i = x) := fun b x hb hx => by rw [hb, hV_pCh hc hx]
  rw [c_ProgramReader_variableOf, e_ProgramReader_variableOf_0, e 117 117 rfl (by omega), e 118 118 rfl (by omega), e 119 119 rfl (by omega), e 120 120 rfl (by omega), e 121 121 rfl (by omega), e_ProgramReader_variableOf_36, e_ProgramReader_variableOf_38, e_ProgramReader_variableOf_40, e_ProgramReader_variableOf_42, e_ProgramReader_variableOf_44]
  unfold vO
  by_cases h0 : pCh c N i = 117
  · rw [jif_t h0, if_pos h0]; rfl
  · rw [jif_f h0, if_neg h0]
    by_cases h1 : pCh c N i = 118
    · rw [jif_t h1, if_pos h1]; rfl
    · rw [jif_f h1, if_neg h1]
      by_cases h9 : pCh c N i = 119
      · rw [jif_t h9, if_neg (by omega), if_neg (by omega)]; rfl
      · rw [jif_f h9]
        by_cases h2 : pCh c N i = 120
        · rw [jif_t h2, if_pos h2]; rfl
        · rw [jif_f h2, if_neg h2]
          by_cases h3 : pCh c N i = 121
          · rw [jif_t h3, if_pos h3]; rfl
          · rw [jif_f h3, if_neg h3]; rfl
theorem oO_ge {o : Option Nat} (h : ∀ v, o = some v → v < 4) : ((0 : Int32) ≤ oO o) = (o.isSome = true) := by
  cases o with
  | none => exact propext ⟨fun h => absurd h (by decide), fun h => Bool.noConfusion h⟩
  | some v => exact propext ⟨fun _ => rfl, fun _ => nI_pos' (by have := h v rfl; omega)⟩
theorem oO_lt {o : Option Nat} (h : ∀ v, o = some v → v < 4) : (oO o < (0 : Int32)) = (o = none) := by
  cases o with
  | none => exact propext ⟨fun _ => rfl, fun _ => by decide⟩
  | some v => exact propext ⟨fun e => absurd e (by
      show ¬ nI v < nI 0
      rw [zi_lt (by have := h v rfl; omega) (by omega)]
      omega), fun e => by cases e⟩
/-- the pattern of all four: a sign that is taken, or a fault -/
theorem c_take_t {c : Nat → Nat} {N i x : Nat} {I : Nat → Nat → Int32} (hN : N ≤ 120) (hc : ∀ i, i < N → c i < 128) (hg : g.2.2.1 35 0 = some 2) (hx : x < 128) (h : lG c N i I) (he : pCh c N i = x) : ∃ I', eCc I I' ∧ lG c N (pSk c N i + 1) I' ∧ jcall (d + 2) 79 [.ref 35, .int (nI x)] (jGs L g, I, J) = some (none, (jGs L g, I', J)) := by
  obtain ⟨hi, h1, h2⟩ := h
  obtain ⟨I1, a1, a2, a3⟩ := c_peek d L g (J := J) hN hc hg hi h1
  have hlt := pCh_lt (c := c) (N := N) (i := i) (by omega)
  refine ⟨ju I1 35 2 (nI (pSk c N i + 1)), fun a k hk => by rw [ju_ne (by omega), a1 a k (by omega)], ⟨by omega, lC_mv a2, by rw [zu_k (by omega), a1 _ _ (by omega)]; exact h2⟩, ?_⟩
  rw [c_ProgramReader_take, e_ProgramReader_take_0, a3, jcI_some, e_ProgramReader_take_4, jif_t (by rw [hV_pCh hc hx]; exact he), e_ProgramReader_take_25, a2.2.2, nI_1]
theorem c_take_n {c : Nat → Nat} {N i x : Nat} {I : Nat → Nat → Int32} (hN : N ≤ 120) (hc : ∀ i, i < N → c i < 128) (hg : g.2.2.1 35 0 = some 2) (hx : x < 128) (h : lG c N i I) (he : pCh c N i ≠ x) : ∃ I', eCc I I' ∧ fF c N (pSk c N i) I' ∧ jcall (d + 2) 79 [.ref 35, .int (nI x)] (jGs L g, I, J) = some (none, (jGs L g, I', J)) := by
  obtain ⟨hi, h1, h2⟩ := h
  obtain ⟨I1, a1, a2, a3⟩ := c_peek d L g (J := J) hN hc hg hi h1
  refine ⟨_, eCc_t (eCc_2 a1) eCc_now, fF_now (pSk_le hi).2 a2, ?_⟩
  rw [c_ProgramReader_take, e_ProgramReader_take_0, a3, jcI_some, e_ProgramReader_take_4, jif_f (by rw [hV_pCh hc hx]; exact he), c_fail_t d L g (by rw [a1 _ _ (by omega)]; exact h2), jcV_some, e_ProgramReader_take_25]
theorem fF_2 {c : Nat → Nat} {N p j : Nat} {I I' : Nat → Nat → Int32} (h : fF c N p I) (hI : ∀ a k, ¬ (a = 35 ∧ k = 2) → I' a k = I a k) (hj : j ≤ N) (hl : lC c N j I') : fF c N p I' := ⟨⟨j, hj, hl⟩, by rw [hI _ _ (by omega)]; exact h.2.1, by rw [hI _ _ (by omega)]; exact h.2.2⟩
theorem c_take_f {c : Nat → Nat} {N p x : Nat} {I : Nat → Nat → Int32} (hN : N ≤ 120) (hc : ∀ i, i < N → c i < 128) (hg : g.2.2.1 35 0 = some 2) (hx : x < 128) (h : fF c N p I) : ∃ I', eCc I I' ∧ fF c N p I' ∧ jcall (d + 2) 79 [.ref 35, .int (nI x)] (jGs L g, I, J) = some (none, (jGs L g, I', J)) := by
  obtain ⟨⟨i, hi, h1⟩, h2, h3⟩ := h
  obtain ⟨I1, a1, a2, a3⟩ := c_peek d L g (J := J) hN hc hg hi h1
  have f1 := fF_2 ⟨⟨i, hi, h1⟩, h2, h3⟩ a1 (pSk_le hi).2 a2
  by_cases he : pCh c N i = x
  · have hlt := pCh_lt (c := c) (N := N) (i := i) (by omega)
    refine ⟨ju I1 35 2 (nI (pSk c N i + 1)), fun a k hk => by rw [ju_ne (by omega), a1 a k (by omega)], fF_2 f1 (fun a k hk => ju_ne (by omega)) (show pSk c N i + 1 ≤ N by omega) (lC_mv a2), ?_⟩
    rw [c_ProgramReader_take, e_ProgramReader_take_0, a3, jcI_some, e_ProgramReader_take_4, jif_t (by rw [hV_pCh hc hx]; exact he), e_ProgramReader_take_25, a2.2.2, nI_1]
  · refine ⟨I1, eCc_2 a1, f1, ?_⟩
    rw [c_ProgramReader_take, e_ProgramReader_take_0, a3, jcI_some, e_ProgramReader_take_4, jif_f (by rw [hV_pCh hc hx]; exact he), c_fail_f d L g f1.2.1, jcV_some, e_ProgramReader_take_25]
end MM

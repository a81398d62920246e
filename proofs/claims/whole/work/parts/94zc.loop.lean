/-! THE REFERENCE: one turn of the reading loop -/
set_option maxRecDepth 100000
theorem rQ_st {q : Nat → Nat → Nat} {I : Nat → Nat → Int32} (h : rQ q I) : rQ (qSt q) (ju I 117 41 (nI (q 117 41 + 1))) := by
  obtain ⟨⟨h1, h2, h3, h4, h5⟩, h6, h7, h8, h9⟩ := h
  unfold qSt
  refine ⟨⟨?_, ?_, ?_, ?_, ?_⟩, fun k hk => ?_, fun k hk => ?_, fun k hk => ?_, fun k hk => ?_⟩
  · simp (disch := omega) only [zu_k]; exact h1
  · rw [zu_at, zu_at]
  · simp (disch := omega) only [zu_k]; exact h3
  · simp (disch := omega) only [zu_k]; exact h4
  · simp (disch := omega) only [zu_k]; exact h5
  · simp (disch := omega) only [zu_a, zu_k] at hk ⊢; exact h6 k hk
  · simp (disch := omega) only [zu_a, zu_k] at hk ⊢; exact h7 k hk
  · simp (disch := omega) only [zu_a, zu_k] at hk ⊢; exact h8 k hk
  · simp (disch := omega) only [zu_a, zu_k] at hk ⊢; exact h9 k hk
theorem qSt_r {q : Nat → Nat → Nat} {a k : Nat} (h : ¬ (a = 117 ∧ k = 41)) : qSt q a k = q a k := by unfold qSt; rw [ju_ne (by omega)]
section MM
variable (d L : Nat) (g : jG) {J : Nat → Nat → Int64}
theorem r_vOf {c : Nat → Nat} {N i : Nat} {I : Nat → Nat → Int32} (hc : ∀ i, i < N → c i < 128) : jcall (d + 1) 200 [.int (hV c N (pSk c N i))] (jGs L g, I, J) = some (some (.int (oO (vO (pCh c N i)))), (jGs L g, I, J)) := by
  rcases pCh_128 (c := c) (N := N) (i := i) hc with hx | hx
  · obtain ⟨-, hv⟩ := hV_some (c := c) (N := N) (i := i) (by omega)
    rw [hv, r_variableOf d L g hx]
  · rw [hV_end hx hc, r_variableOf_m d L g, hx]
    rfl
/-- the loop's head: a statement comes -/
theorem r_lp_in {c : Nat → Nat} {N i k : Nat} {I : Nat → Nat → Int32} (hN : N ≤ 120) (hc : ∀ i, i < N → c i < 128) (hi : i ≤ N) (h : lR c N i false I) (h55 : I 117 55 = nI k) (hk : k ≤ 5) (hz : 0 < k ∨ pCh c N i ≠ 255) : ∃ I1, eL I I1 ∧ lR c N (pSk c N i) false I1 ∧ jval (d + 2) 212 40 [.ref 117] [] (jGs L g, I, J) = jcV (jval (d + 1) 211 4 [.ref 117, jjunk] [.int (hV c N (pSk c N i))] (jGs L g, I1, J)) (fun S1 => jval (d + 2) 212 66 [.ref 117] [] S1) := by
  obtain ⟨hs1, hs2⟩ := pSk_le (c := c) hi
  obtain ⟨k1, k2⟩ := pSk_pSk c N i hi
  by_cases hk0 : 0 < k
  · obtain ⟨I1, a1, a2, a3⟩ := r_hereL d L g (J := J) hN hc hi h
    refine ⟨I1, a1, a2, ?_⟩
    rw [e_TextValuesModel_readsProgram_40, h.2, jif_t (by decide), h55, jif_t (show (0 : Int32) < nI k from nI_lt (a := 0) hk0 (by omega)), e_TextValuesModel_readsProgram_62, c_TextValuesModel_statement, e_TextValuesModel_statement_0, a3, jcI_some]
  · have hne : pCh c N i ≠ 255 := by rcases hz with e | e; exact absurd e hk0; exact e
    obtain ⟨hlt, hv⟩ := hV_some hne
    obtain ⟨I1, a1, a2, a3⟩ := r_hereL (d + 1) L g (J := J) hN hc hi h
    obtain ⟨I2, b1, b2, b3⟩ := r_hereL d L g (J := J) hN hc hs2 a2
    rw [k1] at b2 b3
    have hn1 : ¬ hV c N (pSk c N i) = (-1 : Int32) := by
      rw [hv, show (-1 : Int32) = -nI 1 from rfl, zi_m1e (by rcases pCh_128 (c := c) (N := N) (i := i) hc with e | e <;> omega)]
      exact id
    refine ⟨I2, eL_t a1 b1, b2, ?_⟩
    rw [e_TextValuesModel_readsProgram_40, h.2, jif_t (by decide), h55, jif_f (show ¬ (0 : Int32) < nI k by rw [show k = 0 by omega]; decide), a3, jcI_some, e_TextValuesModel_readsProgram_58, jif_f hn1, e_TextValuesModel_readsProgram_62, c_TextValuesModel_statement, e_TextValuesModel_statement_0, b3, jcI_some]
theorem r_st_23 {c : Nat → Nat} {N i k : Nat} {q : Nat → Nat → Nat} {I : Nat → Nat → Int32} (hc : ∀ i, i < N → c i < 128) (h55 : I 117 55 = nI k) (hq : rQ q I) (hx : pCh c N i ≠ 125 ∨ k = 0) : jval (d + 1) 211 4 [.ref 117, jjunk] [.int (hV c N (pSk c N i))] (jGs L g, I, J) = jval (d + 1) 211 37 [.ref 117, .int (hV c N (pSk c N i))] [.int (oO (vO (pCh c N i)))] (jGs L g, ju I 117 41 (nI (q 117 41 + 1)), J) := by
  have e23 : jval (d + 1) 211 23 [.ref 117, .int (hV c N (pSk c N i))] [] (jGs L g, I, J) = jval (d + 1) 211 37 [.ref 117, .int (hV c N (pSk c N i))] [.int (oO (vO (pCh c N i)))] (jGs L g, ju I 117 41 (nI (q 117 41 + 1)), J) := by
    rw [e_TextValuesModel_statement_23, r_vOf d L g hc, jcI_some, hq.1.2.1, nI_1]
  rw [e_TextValuesModel_statement_4]
  by_cases h125 : pCh c N i = 125
  · rw [jif_t (by rw [show (125 : Int32) = nI 125 from rfl, hV_pCh hc (by omega)]; exact h125), h55, jif_t (by rcases hx with e | e; exact absurd h125 e; rw [e]; decide), e23]
  · rw [jif_f (by rw [show (125 : Int32) = nI 125 from rfl, hV_pCh hc (by omega)]; exact h125), e23]
/-- no statement begins so -/
theorem r_lp_bad {c : Nat → Nat} {N i k : Nat} {q : Nat → Nat → Nat} {I : Nat → Nat → Int32} (hN : N ≤ 120) (hc : ∀ i, i < N → c i < 128) (hi : i ≤ N) (h : lR c N i false I) (hq : rQ q I) (h55 : I 117 55 = nI k) (hk : k ≤ 5) (hz : 0 < k ∨ pCh c N i ≠ 255) (hx : pCh c N i ≠ 125 ∨ k = 0) (hb : isB (pCh c N i) = false) : ∃ I', fQ0 I I' ∧ lR c N (pSk c N i) true I' ∧ jval (d + 2) 212 40 [.ref 117] [] (jGs L g, I, J) = jval (d + 2) 212 40 [.ref 117] [] (jGs L g, I', J) := by
  obtain ⟨I1, a1, a2, a3⟩ := r_lp_in d L g (J := J) hN hc hi h h55 hk hz
  have hq1 := rQ_e hq a1
  have h551 : I1 117 55 = nI k := by rw [a1 _ _ (by omega)]; exact h55
  unfold isB at hb
  rw [Bool.or_eq_false_iff, decide_eq_false_iff_not] at hb
  have hv : vO (pCh c N i) = none := by
    cases hvo : vO (pCh c N i) with
    | none => rfl
    | some v => rw [hvo] at hb; exact Bool.noConfusion hb.1
  refine ⟨ju (ju I1 117 41 (nI (q 117 41 + 1))) 117 54 1, fun a j hq => ?_, ⟨⟨?_, fun j hj => ?_, ?_⟩, ?_⟩, ?_⟩
  · rw [ju_ne (by unfold qX at hq; omega), ju_ne (by unfold qX at hq; omega), a1 a j (by unfold qX at hq; omega)]
  · rw [zu_k (by omega), zu_k (by omega)]; exact a2.1.1
  · rw [zu_a (by omega), zu_a (by omega)]; exact a2.1.2.1 j hj
  · rw [zu_k (by omega), zu_k (by omega)]; exact a2.1.2.2
  · rw [zu_at]; rfl
  · have ne : ∀ b, b < 128 → pCh c N i ≠ b → ¬ hV c N (pSk c N i) = nI b := fun b hb' hne => by rw [hV_pCh hc hb']; exact hne
    rw [a3, r_st_23 d L g hc h551 hq1 hx, e_TextValuesModel_statement_37, hv, jif_t (show oO none = (-1 : Int32) from rfl), jif_f (show ¬ _ = (33 : Int32) from ne 33 (by omega) (by omega)), jif_f (show ¬ _ = (63 : Int32) from ne 63 (by omega) (by omega)), jif_f (show ¬ _ = (35 : Int32) from ne 35 (by omega) (by omega)), jif_f (show ¬ _ = (43 : Int32) from ne 43 (by omega) (by omega)), jif_f (show ¬ _ = (42 : Int32) from ne 42 (by omega) (by omega)), jif_t (Or.inr rfl), e_TextValuesModel_statement_98, jcV_some, e_TextValuesModel_readsProgram_66]
end MM

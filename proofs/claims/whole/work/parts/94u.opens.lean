/-! THE REFERENCE: ofVariable from its start; opens -/
set_option maxRecDepth 100000
section MM
variable (d L : Nat) (g : jG) {J : Nat → Nat → Int64}
theorem r_ofVariable {c : Nat → Nat} {N i v : Nat} {q : Nat → Nat → Nat} {I : Nat → Nat → Int32} (hN : N ≤ 120) (hc : ∀ i, i < N → c i < 128) (hi : i ≤ N) (h : lR c N i false I) (hq : rQ q I) (hv : vO (pCh c N i) = some v) (ht : q 117 48 ≤ i) (h44 : q 117 44 ≤ i) (h35 : q 117 35 < 125) : (∃ i' q' I', pVar c N v (pSk c N i + 1) q = (true, i', q') ∧ fQ0 I I' ∧ lR c N i' false I' ∧ rQ q' I' ∧ i + 1 < i' ∧ i' ≤ N ∧ q' 117 48 < i' ∧ q' 117 44 < i' ∧ q' 117 35 = q 117 35 + 1 ∧ q' 117 42 = q 117 42 ∧ jcall (d + 6) 206 [.ref 117] (jGs L g, I, J) = some (none, (jGs L g, I', J))) ∨ (∃ p q' I' pm t, pVar c N v (pSk c N i + 1) q = (false, p, q') ∧ fQ0 I I' ∧ lR c N p true I' ∧ p ≤ N ∧ pm ≤ 120 ∧ zC (q 117 35 + 1) pm (q 117 42) t I' ∧ jcall (d + 6) 206 [.ref 117] (jGs L g, I, J) = some (none, (jGs L g, I', J))) := by
  obtain ⟨hs1, hs2⟩ := pSk_le (c := c) hi
  have hn0 : nO 0 (pCh c N i) = vO (pCh c N i) := rfl
  have hlt := pCh_lt (c := c) (N := N) (i := i) (by have := (nO_lt (hn0.trans hv)).2; omega)
  obtain ⟨I1, b1, b2, b3⟩ := r_number_t (d + 2) L g (J := J) (s := 0) hN hc hi (by omega) h (hn0.trans hv)
  have start : jcall (d + 6) 206 [.ref 117] (jGs L g, I, J) = jval (d + 5) 206 5 [.ref 117, jjunk, jjunk, jjunk] [.int (nI v)] (jGs L g, I1, J) := by
    rw [c_TextValuesModel_ofVariable, e_TextValuesModel_ofVariable_0, show (0 : Int32) = nI 0 from rfl, b3, jcI_some]
  rw [start]
  rcases r_ov_5 d L g (J := J) (v := v) hN hc (show pSk c N i + 1 ≤ N by omega) b2 (rQ_e hq b1) (by omega) (by omega) h35 with ⟨i', q', I', z1, z2, z3, z4, z5, z6, z7, z8, z9, z10, z11⟩ | ⟨p, q', I', pm, t, z1, z2, z3, z4, z5, z6, z7⟩
  · exact Or.inl ⟨i', q', I', z1, fQ0_t (fQ0_e b1) z2, z3, z4, by omega, z6, z7, z8, z9, z10, z11⟩
  · exact Or.inr ⟨p, q', I', pm, t, z1, fQ0_t (fQ0_e b1) z2, z3, z4, z5, z6, z7⟩
/-- braces open -/
theorem r_opens_t {c : Nat → Nat} {N i k s b : Nat} {I : Nat → Nat → Int32} (hN : N ≤ 120) (hc : ∀ i, i < N → c i < 128) (hi : i ≤ N) (h : lR c N i false I) (h55 : I 117 55 = nI k) (hk : k < 5) (hx : pCh c N i = 123) : ∃ I', (∀ a j, a ≠ 149 → a ≠ 150 → ¬ (a = 117 ∧ (j = 53 ∨ j = 54 ∨ j = 55)) → I' a j = I a j) ∧ lR c N (pSk c N i + 1) false I' ∧ I' 117 55 = nI (k + 1) ∧ I' 149 k = nI s ∧ I' 150 k = nI b ∧ (∀ j, j ≠ k → I' 149 j = I 149 j ∧ I' 150 j = I 150 j) ∧ jcall (d + 3) 208 [.ref 117, .int (nI s), .int (nI b)] (jGs L g, I, J) = some (none, (jGs L g, I', J)) := by
  have h0 : lR c N i false (ju I 117 54 (nI 0)) := lR_cg h (zu_k (by omega)) (fun j => zu_a (by omega)) (zu_k (by omega)) (by rw [zu_at, h.2]; rfl)
  obtain ⟨I1, b1, b2, b3⟩ := r_takes_t d L g (J := J) hN hc hi (show 123 < 128 by omega) h0 hx
  have h551 : I1 117 55 = nI k := by rw [b1 _ _ (by omega), zu_k (by omega)]; exact h55
  refine ⟨ju (ju (ju I1 149 k (nI s)) 150 k (nI b)) 117 55 (nI (k + 1)), fun a j y1 y2 y3 => ?_, lR_p b2 (fun a j haj => ?_), zu_at _ _ _ _, ?_, ?_, fun j hj => ⟨?_, ?_⟩, ?_⟩
  · rw [ju_ne (by omega), ju_ne (by omega), ju_ne (by omega), b1 a j (by omega), ju_ne (by omega)]
  · rw [ju_ne (by omega), ju_ne (by omega), ju_ne (by omega)]
  · rw [zu_a (by omega), zu_a (by omega), zu_at]
  · rw [zu_a (by omega), zu_at]
  · rw [zu_a (by omega), zu_a (by omega), zu_k hj, b1 _ _ (by omega), zu_a (by omega)]
  · rw [zu_a (by omega), zu_k hj, zu_a (by omega), b1 _ _ (by omega), zu_a (by omega)]
  · rw [c_TextValuesModel_opens, e_TextValuesModel_opens_0, h.2, jif_t (by decide), h55, jif_f (show ¬ nI k = (5 : Int32) from fun e => by have := (nI_eq (b := 5) (by omega) (by omega)).mp e; omega), e_TextValuesModel_opens_29, e_TextValuesModel_opens_30, jif_t (Or.inl rfl), show (0 : Int32) = nI 0 from rfl, show (123 : Int32) = nI 123 from rfl, b3, jcI_some, e_TextValuesModel_opens_39, jif_f (by decide), h551, jif_f (show ¬ (5 : Int32) ≤ nI k from nI_ge (a := k) (b := 5) hk (by omega)), jin_nI (by omega) (by omega), nI_c (by omega), cond_true, cond_true, nI_1, e_TextValuesModel_opens_80]
end MM

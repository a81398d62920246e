/-! THE REFERENCE: ofVariable from its start; opens -/
set_option maxRecDepth 100000
section MM
variable (d L : Nat) (g : jG) {J : Nat → Nat → Int64}
theorem r_ofVariable {c : Nat → Nat} {N i v : Nat} {q : Nat → Nat → Nat} {I : Nat → Nat → Int32} (hN : N ≤ 120) (hc : ∀ i, i < N → c i < 128) (hi : i ≤ N) (h : lR c N i false I) (hq : rQ q I) (hv : vO (pCh c N i) = some v) (ht : q 117 48 ≤ i) (h44 : q 117 44 ≤ i) (h35 : q 117 35 < 125) : (∃ i' q' I', pVar c N v (pSk c N i + 1) q = (true, i', q') ∧ fQ0 I I' ∧ lR c N i' false I' ∧ rQ q' I' ∧ i + 1 < i' ∧ i' ≤ N ∧ q' 117 48 < i' ∧ q' 117 44 < i' ∧ q' 117 35 = q 117 35 + 1 ∧ q' 117 42 = q 117 42 ∧ jcall (d + 6) 206 [.ref 117] (jGs L g, I, J) = some (none, (jGs L g, I', J))) ∨ (∃ p q' I' pm t, pVar c N v (pSk c N i + 1) q = (false, p, q') ∧ fQ0 I I' ∧ lR c N p true I' ∧ p ≤ N ∧ pm ≤ 120 ∧ zC (q 117 35 + 1) pm (q 117 42) t I' ∧ jcall (d + 6) 206 [.ref 117] (jGs L g, I, J) = some (none, (jGs L g, I', J))) := by
  obtain ⟨hs1, hs2⟩ := pSk_le (c := c) hi
  have hn0 : nO 0 (pCh c N i) = vO (pCh c N i) := rfl
  have hlt := pCh_lt (c := c) (N := N) (i := i) (by have := (nO_lt (hn0.trans hv)).2; omega)
  obtain ⟨I1, b1, b2, b3⟩ := r_number_t (d + 2) L g (J := J) (s := 0) hN hc hi (by omega) h (hn0.trans hv)
  have start : jcall (d + 6) 206 [.ref 117] (jGs L g, I, J) = jval (d + 5) 206 5 [.ref 117, jjunk, jjunk, jjunk] [.int (nI v)] (jGs L g, I1, J) := by
    rw [c_TextValuesModel_ofVariable, e_TextValuesModel_ofVariable_0, show (0 : Int32) = nI 0 from rfl, b3, jcI_some]
  rw [start]
  rcases r_ov_5 d L g (J := J) (v := v) hN hc (show pSk c N i + 1 ≤ N by omega) b2 (rQ_e hq b1) (by omega) (by omega) h35 with ⟨i', q', I', z1, z2, z3, z4, z5, z6, z7, z8, z9, z10, z11⟩ | ⟨p, q', I', pm, t, z1, z2, z3, z4, z5, z6, z7⟩
  · exact Or.inl ⟨i', q', I', z1, fQ0_t (fQ0_e b1) z2, z3, z4, by omega, z6, z7, z8, z9, z10, z11⟩
  · exact Or.inr ⟨p, q', I', pm, t, z1, fQ0_t (fQ0_e b1) z2, z3, z4, z5, z6, z7⟩
/-- braces open -/
theorem r_opens_t {c : Nat → Nat} {N i k s b : Nat} {I : Nat → Nat → Int32} (hN : N ≤ 120) (hc : ∀ i, i < N → c i < 128) (hi : i ≤ N) (h : lR c N i false I) (h55 : I 117 55 = nI k) (hk : k < 5) (hx : pCh c N i = 123) : ∃ I', (∀ a j, a ≠ 149 → a ≠ 150 → ¬ (a = 117 ∧ (j = 53 ∨ j = 54 ∨ j = 55)) → I' a j = I a j) ∧ lR c N (pSk c N i + 1) false I' ∧ I' 117 55 = nI (k + 1) ∧ I' 149 k = nI s ∧ I' 150 k = nI b ∧ (∀ j, j ≠ k → I' 149 j = I 149 j ∧ I' 150 j = I 150 j) ∧ jcall (d + 3) 208 [.ref 117, .int (nI s), .int (nI b)] (jGs L g, I, J) = some (none, (jGs L g, I', J)) := by
  have h0 : lR c N i false (ju I 117 54 (nI 0)) := lR_cg h (zu_k (by omega)) (fun j => zu_a (by omega)) (zu_k (by omega)) (by rw [zu_at, h.2]; rfl)
  obtain ⟨I1, b1, b2, b3⟩ := r_takes_t d L g (J := J) hN hc hi (show 123 < 128 by omega) h0 hx
  have h551 : I1 117 55 = nI k := by rw [b1 _ _ (by omega), zu_k (by omega)]; exact h55
  refine ⟨ju (ju (ju I1 149 k (nI s)) 150 k (nI b)) 117 55 (nI (k + 1)), fun a j y1 y2 y3 => ?_, lR_p b2 (fun a j haj => ?_), zu_at _ _ _ _, ?_, ?_, fun j hj => ⟨?_, ?_⟩, ?_⟩
  · rw [ju_ne (by omega), ju_ne (by omega), ju_ne (by omega), b1 a j (by omega), ju_ne (by omega)]
  · rw [ju_ne (by omega), ju_ne (by omega), ju_ne (by omega)]
  · rw [zu_a (by omega), zu_a (by omega), zu_at]
  · rw [zu_a (by omega), zu_at]
  · rw [zu_a (by omega), zu_a (by omega), zu_k hj, b1 _ _ (by omega), zu_a (by omega)]
  · rw [zu_a (by omega), zu_k hj, zu_a (by omega), b1 _ _ (by omega), zu_a (by omega)]
  · rw [c_TextValuesModel_opens, e_TextValuesModel_opens_0, h.2, jif_t (by decide), h55, jif_f (show ¬ nI k = (5 : Int32) from fun e => by have := (nI_eq (b := 5) (by omega) (by omega)).mp e; omega), e_TextValuesModel_opens_29, e_TextValuesModel_opens_30, jif_t (Or.inl rfl), show (0 : Int32) = nI 0 from rfl, show (123 : Int32) = nI 123 from rfl, b3, jcI_some, e_TextValuesModel_opens_39, jif_f (by decide), h551, jif_f (show ¬ (5 : Int32) ≤ nI k from nI_ge (a := k) (b := 5) hk (by omega)), jin_nI (by omega) (by omega), nI_c (by omega), cond_true, cond_true, nI_1, e_TextValuesModel_opens_80]
end MM
section MM
variable (d L : Nat) (g : jG) {J : Nat → Nat → Int64}
/-- braces do not open: a fault before, or now -/
theorem r_opens_f {c : Nat → Nat} {N i : Nat} {x y : Int32} {I : Nat → Nat → Int32} (h : lR c N i true I) : ∃ I', eL I I' ∧ lR c N i true I' ∧ jcall (d + 2) 208 [.ref 117, .int x, .int y] (jGs L g, I, J) = some (none, (jGs L g, I', J)) := by
  have h0 : lR c N i true (ju I 117 54 (nI 1)) := lR_cg h (zu_k (by omega)) (fun j => zu_a (by omega)) (zu_k (by omega)) (by rw [zu_at, h.2]; rfl)
  obtain ⟨I1, b1, b2, b3⟩ := r_takes_f d L g (J := J) (x := 123) h0
  refine ⟨I1, eL_t (fun a k hk => ju_ne (by omega)) b1, b2, ?_⟩
  rw [c_TextValuesModel_opens, e_TextValuesModel_opens_0, h.2, jif_f (by decide), e_TextValuesModel_opens_25, e_TextValuesModel_opens_30, jif_t (Or.inr rfl), show (1 : Int32) = nI 1 from rfl, b3, jcI_some, e_TextValuesModel_opens_39, jif_t (by decide), e_TextValuesModel_opens_80]
theorem r_opens_n {c : Nat → Nat} {N i k : Nat} {x y : Int32} {I : Nat → Nat → Int32} (hN : N ≤ 120) (hc : ∀ i, i < N → c i < 128) (hi : i ≤ N) (h : lR c N i false I) (h55 : I 117 55 = nI k) (hk : k ≤ 5) (hx : k = 5 ∨ pCh c N i ≠ 123) : ∃ I', eL I I' ∧ lR c N (pSk c N i) true I' ∧ jcall (d + 3) 208 [.ref 117, .int x, .int y] (jGs L g, I, J) = some (none, (jGs L g, I', J)) := by
  obtain ⟨hs1, hs2⟩ := pSk_le (c := c) hi
  obtain ⟨k1, k2⟩ := pSk_pSk c N i hi
  -- the taking fails
  have tail : ∀ i0 I0, i0 ≤ N → pSk c N i0 = pSk c N i → pCh c N i0 = pCh c N i → eL I I0 → lR c N i0 false I0 → pCh c N i ≠ 123 → ∃ I', eL I I' ∧ lR c N (pSk c N i) true I' ∧ jval (d + 2) 208 29 [.ref 117, .int x, .int y] [.ref 117] (jGs L g, I0, J) = some (none, (jGs L g, I', J)) := by
    intro i0 I0 hi0 e1 e2 f0 h0 hne
    have h00 : lR c N i0 false (ju I0 117 54 (nI 0)) := lR_cg h0 (zu_k (by omega)) (fun j => zu_a (by omega)) (zu_k (by omega)) (by rw [zu_at, h0.2]; rfl)
    obtain ⟨I1, b1, b2, b3⟩ := r_takes_n d L g (J := J) hN hc hi0 (show 123 < 128 by omega) h00 (by rw [e2]; exact hne)
    rw [e1] at b2
    refine ⟨I1, eL_t f0 (eL_t (fun a k hk => ju_ne (by omega)) b1), b2, ?_⟩
    rw [e_TextValuesModel_opens_29, e_TextValuesModel_opens_30, jif_t (Or.inl rfl), show (0 : Int32) = nI 0 from rfl, show (123 : Int32) = nI 123 from rfl, b3, jcI_some, e_TextValuesModel_opens_39, jif_t (by decide), e_TextValuesModel_opens_80]
  by_cases h5 : k = 5
  · obtain ⟨I1, a1, a2, a3⟩ := r_hereL (d + 1) L g (J := J) hN hc hi h
    by_cases h123 : pCh c N i = 123
    · have h0 : lR c N (pSk c N i) true (ju I1 117 54 (nI 1)) := ⟨⟨by rw [zu_k (by omega)]; exact a2.1.1, fun j hj => by rw [zu_a (by omega)]; exact a2.1.2.1 j hj, by rw [zu_k (by omega)]; exact a2.1.2.2⟩, by rw [zu_at]; rfl⟩
      obtain ⟨I2, b1, b2, b3⟩ := r_takes_f (d + 1) L g (J := J) (x := 123) h0
      refine ⟨I2, eL_t a1 (eL_t (fun a k hk => ju_ne (by omega)) b1), b2, ?_⟩
      rw [c_TextValuesModel_opens, e_TextValuesModel_opens_0, h.2, jif_t (by decide), h55, jif_t (by rw [h5]; rfl), a3, jcI_some, e_TextValuesModel_opens_20, jif_t (by rw [show (123 : Int32) = nI 123 from rfl, hV_pCh hc (by omega)]; exact h123), e_TextValuesModel_opens_25, e_TextValuesModel_opens_30, jif_t (Or.inr rfl), show (1 : Int32) = nI 1 from rfl, b3, jcI_some, e_TextValuesModel_opens_39, jif_t (by decide), e_TextValuesModel_opens_80]
    · obtain ⟨I', b1, b2, b3⟩ := tail (pSk c N i) I1 hs2 k1 k2 a1 a2 h123
      refine ⟨I', b1, b2, ?_⟩
      rw [c_TextValuesModel_opens, e_TextValuesModel_opens_0, h.2, jif_t (by decide), h55, jif_t (by rw [h5]; rfl), a3, jcI_some, e_TextValuesModel_opens_20, jif_f (by rw [show (123 : Int32) = nI 123 from rfl, hV_pCh hc (by omega)]; exact h123)]
      exact b3
  · obtain ⟨I', b1, b2, b3⟩ := tail i I hi rfl rfl (eL_r I) h (by rcases hx with e | e; exact absurd e h5; exact e)
    refine ⟨I', b1, b2, ?_⟩
    rw [c_TextValuesModel_opens, e_TextValuesModel_opens_0, h.2, jif_t (by decide), h55, jif_f (show ¬ nI k = (5 : Int32) from fun e => h5 ((nI_eq (b := 5) (by omega) (by omega)).mp e))]
    exact b3
end MM

/-! THE REFERENCE: quoted, makesTold -/
set_option maxRecDepth 100000
theorem pSk_pSk (c : Nat → Nat) (N i : Nat) (hi : i ≤ N) : pSk c N (pSk c N i) = pSk c N i ∧ pCh c N (pSk c N i) = pCh c N i := by
  have hb := skp_le c (N - i) i
  have hne := skp_ne c (N - i) i
  have e : pSk c N (pSk c N i) = pSk c N i := by
    generalize hj : pSk c N i = j
    have hj' : skp c (N - i) i = j := hj
    rw [hj'] at hb hne
    unfold pSk
    cases hNj : N - j with
    | zero => rfl
    | succ k =>
      show (if c j = 32 then _ else j) = j
      rw [if_neg (hne (by omega))]
  exact ⟨e, by unfold pCh; rw [e]⟩
theorem lR_p {c : Nat → Nat} {N i : Nat} {b : Bool} {I I' : Nat → Nat → Int32} (h : lR c N i b I) (hI : ∀ a k, (a = 148 ∨ (a = 117 ∧ 52 ≤ k ∧ k ≤ 54)) → I' a k = I a k) : lR c N i b I' := lR_cg h (hI _ _ (by omega)) (fun j => hI _ _ (by omega)) (hI _ _ (by omega)) (hI _ _ (by omega))
section MM
variable (d L : Nat) (g : jG) {J : Nat → Nat → Int64}
theorem r_quoted {c : Nat → Nat} {N i : Nat} {q : Nat → Nat → Nat} {I : Nat → Nat → Int32} (hN : N ≤ 120) (hc : ∀ i, i < N → c i < 128) (hi : i ≤ N) (h : lR c N i false I) (hq : rQ q I) (hx : pCh c N i = 39) (ht : q 117 48 < i) (hp : q 117 44 < 120) : (∃ i' q' I', pLet c N (N + 1) (pSk c N i + 1) (qCode q 39) = (true, i', q') ∧ fQ0 I I' ∧ lR c N i' false I' ∧ rQ (qPart q' 1 (q 117 48) (q' 117 48 - q 117 48)) I' ∧ i < i' ∧ i' ≤ N ∧ q' 117 48 < i' ∧ (∀ a k, a ≠ 38 → a ≠ 35 → a ≠ 120 → ¬ (a = 117 ∧ k = 48) → q' a k = q a k) ∧ jcall (d + 4) 204 [.ref 117] (jGs L g, I, J) = some (none, (jGs L g, I', J))) ∨ (∃ p q' I' t, pLet c N (N + 1) (pSk c N i + 1) (qCode q 39) = (false, p, q') ∧ fQ0 I I' ∧ lR c N p true I' ∧ p ≤ N ∧ zC (q 117 35) (q 117 44 + 1) (q 117 42) t I' ∧ jcall (d + 4) 204 [.ref 117] (jGs L g, I, J) = some (none, (jGs L g, I', J))) := by
  have hlt := pCh_lt (c := c) (N := N) (i := i) (by omega)
  obtain ⟨hs1, hs2⟩ := pSk_le (c := c) hi
  obtain ⟨I1, a1, a2, a3⟩ := r_takes_t (d + 1) L g (J := J) hN hc hi (show 39 < 128 by omega) h hx
  have h48 := hq.1.2.2.2.2
  have hq1 := rQ_code (x := 39) (rQ_e hq a1)
  have e48 : qCode q 39 117 48 = q 117 48 := qCode_r (by omega) (by omega)
  have start : jcall (d + 4) 204 [.ref 117] (jGs L g, I, J) = jval (d + 3) 204 12 [.ref 117, .int (nI (q 117 48)), jjunk] [] (jGs L g, I1, J) := by
    rw [c_TextValuesModel_quoted, e_TextValuesModel_quoted_0, show (39 : Int32) = nI 39 from rfl, a3, jcI_some, h48, e_TextValuesModel_quoted_11]
  rw [start]
  rcases r_qu_12 d L g (J := J) (x1 := nI (q 117 48)) hN hc (N + 1) (pSk c N i + 1) (qCode q 39) I1 (by omega) (by omega) a2 hq1 (by rw [e48]; omega) with ⟨i', q', I', z1, z2, z3, z4, z5, z6, z7, z8, z9, z10⟩ | ⟨p, q', I', t, z1, z2, z3, z4, z5, z6⟩
  · rw [e48] at z8
    have er : ∀ a k, a ≠ 38 → a ≠ 35 → a ≠ 120 → ¬ (a = 117 ∧ k = 48) → q' a k = q a k := fun a k y1 y2 y3 y4 => (z9 a k y1 y2 y3 y4).trans (qCode_r y1 y2)
    have h44 : q' 117 44 = q 117 44 := er _ _ (by omega) (by omega) (by omega) (by omega)
    refine Or.inl ⟨i', q', _, z1, fQ0_t (fQ0_t (fQ0_e a1) z2) (fun a k hx => ?_), ?_, rQ_part z4, by omega, z6, z7, er, ?_⟩
    · unfold qX at hx; rw [ju_ne (by omega), ju_ne (by omega), ju_ne (by omega), ju_ne (by omega)]
    · exact lR_p z3 (fun a k hak => by rw [ju_ne (by omega), ju_ne (by omega), ju_ne (by omega), ju_ne (by omega)])
    · rw [z10, e_TextValuesModel_quoted_74, z4.1.2.2.2.2, zi_sub z8, show (1 : Int32) = nI 1 from rfl, r_part (d + 2) L g z4 (by omega), jcV_some, e_TextValuesModel_quoted_87]
  · rw [qCode_r (by omega) (by omega), qCode_r (by omega) (by omega), qCode_r (by omega) (by omega)] at z5
    obtain ⟨I2, b1, b2, b3, b4⟩ := r_part_f (d + 2) L g (J := J) (x := 1) (y := nI (q 117 48)) (z := I' 117 48 - nI (q 117 48)) z5 hp
    refine Or.inr ⟨p, q', I2, t, z1, fQ0_t (fQ0_t (fQ0_e a1) z2) b1, ?_, z4, b2, ?_⟩
    · exact lR_p z3 (fun a k hak => by
        rcases hak with e | ⟨e1, e2, e3⟩
        · exact b1 a k (by unfold qX; omega)
        · rw [e1]; exact b3 k (by omega))
    · rw [z6, e_TextValuesModel_quoted_74, b4, jcV_some, e_TextValuesModel_quoted_87]
end MM

/-! THE REFERENCE: one turn of the reading loop, by the sign that comes -/
set_option maxRecDepth 100000
theorem vO_lt {x v : Nat} (h : vO x = some v) : v < 4 ∧ x ≤ 121 ∧ 117 ≤ x := by
  unfold vO at h
  repeat' split at h
  all_goals first | cases h | skip
  all_goals omega
/-- the counters lie below the place -/
def pBd (i : Nat) (q : Nat → Nat → Nat) : Prop := q 117 48 ≤ i ∧ q 117 44 ≤ i ∧ q 117 35 ≤ i ∧ 4 * q 117 42 ≤ i
section MM
variable (d L : Nat) (g : jG) {J : Nat → Nat → Int64}
theorem r_lp_37 {c : Nat → Nat} {N i k : Nat} {q : Nat → Nat → Nat} {I : Nat → Nat → Int32} (hN : N ≤ 120) (hc : ∀ i, i < N → c i < 128) (hi : i ≤ N) (h : lR c N i false I) (hq : rQ q I) (h55 : I 117 55 = nI k) (hk : k ≤ 5) (hx : pCh c N i < 125) : ∃ I', fQ0 I I' ∧ lR c N (pSk c N i) false I' ∧ rQ (qSt q) I' ∧ I' 117 55 = nI k ∧ (∀ a j, a = 149 ∨ a = 150 → I' a j = I a j) ∧ jval (d + 2) 212 40 [.ref 117] [] (jGs L g, I, J) = jcV (jval (d + 1) 211 37 [.ref 117, .int (nI (pCh c N i))] [.int (oO (vO (pCh c N i)))] (jGs L g, I', J)) (fun S1 => jval (d + 2) 212 66 [.ref 117] [] S1) := by
  obtain ⟨I1, a1, a2, a3⟩ := r_lp_in d L g (J := J) hN hc hi h h55 hk (Or.inr (by omega))
  obtain ⟨-, hv⟩ := hV_some (c := c) (N := N) (i := i) (by omega)
  have hq1 := rQ_e hq a1
  have h551 : I1 117 55 = nI k := by rw [a1 _ _ (by omega)]; exact h55
  refine ⟨ju I1 117 41 (nI (q 117 41 + 1)), fun a j hx => ?_, lR_p a2 (fun a j haj => ju_ne (by omega)), rQ_st hq1, ?_, fun a j ha => ?_, ?_⟩
  · rw [ju_ne (by unfold qX at hx; omega), a1 a j (by unfold qX at hx; omega)]
  · rw [zu_k (by omega)]; exact h551
  · rw [ju_ne (by omega), a1 a j (by omega)]
  · rw [a3, r_st_23 d L g hc h551 hq1 (Or.inl (by omega)), hv]
theorem r_lp_var {c : Nat → Nat} {N i k v : Nat} {q : Nat → Nat → Nat} {I : Nat → Nat → Int32} (hN : N ≤ 120) (hc : ∀ i, i < N → c i < 128) (hi : i ≤ N) (h : lR c N i false I) (hq : rQ q I) (h55 : I 117 55 = nI k) (hk : k ≤ 5) (hv : vO (pCh c N i) = some v) (hb : pBd i q) : (∃ i' q' I', pVar c N v (pSk c N i + 1) (qSt q) = (true, i', q') ∧ fQ0 I I' ∧ lR c N i' false I' ∧ rQ q' I' ∧ i < i' ∧ i' ≤ N ∧ pBd i' q' ∧ I' 117 55 = nI k ∧ (∀ a j, a = 149 ∨ a = 150 → I' a j = I a j) ∧ jval (d + 7) 212 40 [.ref 117] [] (jGs L g, I, J) = jval (d + 7) 212 40 [.ref 117] [] (jGs L g, I', J)) ∨ (∃ p q' I', pVar c N v (pSk c N i + 1) (qSt q) = (false, p, q') ∧ fQ0 I I' ∧ lR c N p true I' ∧ p ≤ N ∧ jval (d + 7) 212 40 [.ref 117] [] (jGs L g, I, J) = jval (d + 7) 212 40 [.ref 117] [] (jGs L g, I', J)) := by
  obtain ⟨v4, x128, x117⟩ := vO_lt hv
  obtain ⟨hs1, hs2⟩ := pSk_le (c := c) hi
  obtain ⟨k1, k2⟩ := pSk_pSk c N i hi
  obtain ⟨I1, a1, a2, a3, a4, a5, a6⟩ := r_lp_37 (d + 5) L g (J := J) hN hc hi h hq h55 hk (by omega)
  obtain ⟨b1, b2, b3, b4⟩ := hb
  have q48 : qSt q 117 48 = q 117 48 := qSt_r (by omega)
  have q44 : qSt q 117 44 = q 117 44 := qSt_r (by omega)
  have q35 : qSt q 117 35 = q 117 35 := qSt_r (by omega)
  have q42 : qSt q 117 42 = q 117 42 := qSt_r (by omega)
  have hne : ¬ oO (some v) = (-1 : Int32) := by
    show ¬ nI v = (-1 : Int32)
    rw [show (-1 : Int32) = -nI 1 from rfl, zi_m1e (by omega)]; exact id
  have e0 := r_ofVariable d L g (J := J) (v := v) hN hc hs2 a2 a3 (by rw [k2]; exact hv) (by omega) (by omega) (by omega)
  rw [k1] at e0
  rcases e0 with ⟨i', q', I', z1, z2, z3, z4, z5, z6, z7, z8, z9, z10, z11⟩ | ⟨p, q', I', pm, t, z1, z2, z3, z4, z5, z6, z7⟩
  · refine Or.inl ⟨i', q', I', z1, fQ0_t a1 z2, z3, z4, by omega, z6, ⟨by omega, by omega, by omega, by omega⟩, ?_, fun a j ha => ?_, ?_⟩
    · rw [z2 _ _ (by unfold qX; omega)]; exact a4
    · rw [z2 _ _ (by unfold qX; omega)]; exact a5 a j ha
    · rw [a6, hv, e_TextValuesModel_statement_37, jif_f hne, z11, jcV_some, e_TextValuesModel_statement_45, e_TextValuesModel_statement_98, jcV_some, e_TextValuesModel_readsProgram_66]
  · refine Or.inr ⟨p, q', I', z1, fQ0_t a1 z2, z3, z4, ?_⟩
    rw [a6, hv, e_TextValuesModel_statement_37, jif_f hne, z7, jcV_some, e_TextValuesModel_statement_45, e_TextValuesModel_statement_98, jcV_some, e_TextValuesModel_readsProgram_66]
theorem r_lp_al {c : Nat → Nat} {N i k : Nat} {q : Nat → Nat → Nat} {I : Nat → Nat → Int32} (hN : N ≤ 120) (hc : ∀ i, i < N → c i < 128) (hi : i ≤ N) (h : lR c N i false I) (hq : rQ q I) (h55 : I 117 55 = nI k) (hk : k ≤ 5) (hv : pCh c N i = 33) (hb : pBd i q) : (∃ i' q' I', pAl c N (pSk c N i) (pSk c N i + 1) (qSt q) = (true, i', q') ∧ fQ0 I I' ∧ lR c N i' false I' ∧ rQ q' I' ∧ i < i' ∧ i' ≤ N ∧ pBd i' q' ∧ I' 117 55 = nI k ∧ (∀ a j, a = 149 ∨ a = 150 → I' a j = I a j) ∧ jval (d + 7) 212 40 [.ref 117] [] (jGs L g, I, J) = jval (d + 7) 212 40 [.ref 117] [] (jGs L g, I', J)) ∨ (∃ p q' I', pAl c N (pSk c N i) (pSk c N i + 1) (qSt q) = (false, p, q') ∧ fQ0 I I' ∧ lR c N p true I' ∧ p ≤ N ∧ jval (d + 7) 212 40 [.ref 117] [] (jGs L g, I, J) = jval (d + 7) 212 40 [.ref 117] [] (jGs L g, I', J)) := by
  obtain ⟨hs1, hs2⟩ := pSk_le (c := c) hi
  obtain ⟨k1, k2⟩ := pSk_pSk c N i hi
  have hlt := pCh_lt (c := c) (N := N) (i := i) (by omega)
  obtain ⟨I1, a1, a2, a3, a4, a5, a6⟩ := r_lp_37 (d + 5) L g (J := J) hN hc hi h hq h55 hk (by omega)
  obtain ⟨b1, b2, b3, b4⟩ := hb
  have q48 : qSt q 117 48 = q 117 48 := qSt_r (by omega)
  have q44 : qSt q 117 44 = q 117 44 := qSt_r (by omega)
  have q35 : qSt q 117 35 = q 117 35 := qSt_r (by omega)
  have q42 : qSt q 117 42 = q 117 42 := qSt_r (by omega)
  have e0 := r_readsAlarm (d + 2) L g (J := J) hN hc hs2 a2 a3 k1 (by rw [k2]; exact hv) (by omega) (by omega)
  have e37 : jval (d + 6) 211 37 [.ref 117, .int (nI (pCh c N i))] [.int (oO (vO (pCh c N i)))] (jGs L g, I1, J) = jcV (jcall (d + 6) 207 [.ref 117] (jGs L g, I1, J)) (fun S1 => jval (d + 6) 211 58 [jjunk, jjunk] [] S1) := by
    rw [e_TextValuesModel_statement_37, hv, jif_t (by decide), jif_t (by decide)]
  rcases e0 with ⟨i', q', I', z1, z2, z3, z4, z5, z6, z7, z8, z9, z10, z11⟩ | ⟨p, q', I', z1, z2, z3, z4, z5, z6⟩
  · refine Or.inl ⟨i', q', I', z1, fQ0_t a1 z2, z3, z4, by omega, z6, ⟨by omega, by omega, by omega, by omega⟩, ?_, fun a j ha => ?_, ?_⟩
    · rw [z2 _ _ (by unfold qX; omega)]; exact a4
    · rw [z2 _ _ (by unfold qX; omega)]; exact a5 a j ha
    · rw [a6, e37, z11, jcV_some, e_TextValuesModel_statement_58, e_TextValuesModel_statement_98, jcV_some, e_TextValuesModel_readsProgram_66]
  · refine Or.inr ⟨p, q', I', z1, fQ0_t a1 z2, z3, z4, ?_⟩
    rw [a6, e37, z6, jcV_some, e_TextValuesModel_statement_58, e_TextValuesModel_statement_98, jcV_some, e_TextValuesModel_readsProgram_66]
theorem r_lp_hd {c : Nat → Nat} {N i k x : Nat} {q : Nat → Nat → Nat} {I : Nat → Nat → Int32} (hN : N ≤ 120) (hc : ∀ i, i < N → c i < 128) (hi : i ≤ N) (h : lR c N i false I) (hq : rQ q I) (h55 : I 117 55 = nI k) (hk : k ≤ 5) (hpc : pCh c N i = x) (hx : x = 63 ∨ x = 35 ∨ x = 43 ∨ x = 42) (hb : pBd i q) : (∃ i' q' I', pHd c N x (pSk c N i + 1) (qSt q) = (true, i', q') ∧ i < i' ∧ i' ≤ N ∧ k < 5 ∧ pCh c N i' = 123 ∧ fQ1 I I' ∧ lR c N (pSk c N i' + 1) false I' ∧ rQ q' I' ∧ I' 117 55 = nI (k + 1) ∧ I' 149 k = nI (q 117 35) ∧ I' 150 k = nI 0 ∧ (∀ j, j ≠ k → I' 149 j = I 149 j ∧ I' 150 j = I 150 j) ∧ (∃ a b, q' = qCome (qSt q) (sortO x) a b 0) ∧ jval (d + 7) 212 40 [.ref 117] [] (jGs L g, I, J) = jval (d + 7) 212 40 [.ref 117] [] (jGs L g, I', J)) ∨ (∃ p I', ((∃ q', pHd c N x (pSk c N i + 1) (qSt q) = (false, p, q')) ∨ ∃ i' q', pHd c N x (pSk c N i + 1) (qSt q) = (true, i', q') ∧ (k = 5 ∨ pCh c N i' ≠ 123) ∧ p = pSk c N i') ∧ fQ1 I I' ∧ lR c N p true I' ∧ p ≤ N ∧ jval (d + 7) 212 40 [.ref 117] [] (jGs L g, I, J) = jval (d + 7) 212 40 [.ref 117] [] (jGs L g, I', J)) := by
  obtain ⟨hs1, hs2⟩ := pSk_le (c := c) hi
  obtain ⟨k1, k2⟩ := pSk_pSk c N i hi
  obtain ⟨I1, a1, a2, a3, a4, a5, a6⟩ := r_lp_37 (d + 5) L g (J := J) hN hc hi h hq h55 hk (by omega)
  obtain ⟨b1, b2, b3, b4⟩ := hb
  have q35 : qSt q 117 35 = q 117 35 := qSt_r (by omega)
  have e0 := r_begins (d + 2) L g (J := J) (x := x) hN hc hs2 a2 a3 k1 (by rw [k2]; exact hpc) hx a4 hk (by omega)
  have e37 : jval (d + 6) 211 37 [.ref 117, .int (nI (pCh c N i))] [.int (oO (vO (pCh c N i)))] (jGs L g, I1, J) = jcV (jcall (d + 6) 210 [.ref 117, .int (nI x)] (jGs L g, I1, J)) (fun S1 => jval (d + 6) 211 90 [jjunk, jjunk] [] S1) := by
    rw [e_TextValuesModel_statement_37, hpc, ← e_TextValuesModel_statement_85]
    rcases hx with e | e | e | e <;> subst e
    · rw [jif_t (by decide), jif_f (by decide), jif_t (by decide)]
    · rw [jif_t (by decide), jif_f (by decide), jif_f (by decide), jif_t (by decide)]
    · rw [jif_t (by decide), jif_f (by decide), jif_f (by decide), jif_f (by decide), jif_t (by decide)]
    · rw [jif_t (by decide), jif_f (by decide), jif_f (by decide), jif_f (by decide), jif_f (by decide), jif_t (by decide)]
  rcases e0 with ⟨i', q', I', z1, z2, z3, z4, z5, z6, z7, z8, z9, z10, z11, z12, z13, z14⟩ | ⟨p, I', z1, z2, z3, z4, z5, z6⟩
  · refine Or.inl ⟨i', q', I', z1, by omega, z3, z4, z5, fQ1_t (fQ1_0 a1) z6, z7, z8, z9, z10.trans (by rw [q35]), z11, fun j hj => ⟨(z12 j hj).1.trans (a5 _ _ (by omega)), (z12 j hj).2.trans (a5 _ _ (by omega))⟩, z13, ?_⟩
    rw [a6, e37, z14, jcV_some, e_TextValuesModel_statement_90, e_TextValuesModel_statement_98, jcV_some, e_TextValuesModel_readsProgram_66]
  · refine Or.inr ⟨p, I', z1, fQ1_t (fQ1_0 a1) z2, z3, z4, ?_⟩
    rw [a6, e37, z6, jcV_some, e_TextValuesModel_statement_90, e_TextValuesModel_statement_98, jcV_some, e_TextValuesModel_readsProgram_66]
/-- at a closing brace -/
theorem r_lp_cl {c : Nat → Nat} {N i k : Nat} {I : Nat → Nat → Int32} (hN : N ≤ 120) (hc : ∀ i, i < N → c i < 128) (hi : i ≤ N) (h : lR c N i false I) (h55 : I 117 55 = nI (k + 1)) (hk : k < 5) (hpc : pCh c N i = 125) : ∃ I1, eL I I1 ∧ lR c N (pSk c N i) false I1 ∧ jval (d + 2) 212 40 [.ref 117] [] (jGs L g, I, J) = jcV (jcV (jcall (d + 1) 209 [.ref 117] (jGs L g, I1, J)) (fun S1 => jval (d + 1) 211 22 [jjunk, jjunk] [] S1)) (fun S1 => jval (d + 2) 212 66 [.ref 117] [] S1) := by
  obtain ⟨I1, a1, a2, a3⟩ := r_lp_in d L g (J := J) hN hc hi h h55 (by omega) (Or.inl (by omega))
  refine ⟨I1, a1, a2, ?_⟩
  rw [a3, e_TextValuesModel_statement_4, jif_t (by rw [show (125 : Int32) = nI 125 from rfl, hV_pCh hc (by omega)]; exact hpc), jif_f (by rw [a1 _ _ (by omega), h55]; exact nI_ge (a := 0) (b := k + 1) (by omega) (by omega))]
end MM

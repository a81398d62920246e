/-! THE REFERENCE: readsAlarm -/
set_option maxRecDepth 100000
section MM
variable (d L : Nat) (g : jG) {J : Nat → Nat → Int64}
theorem r_readsAlarm {c : Nat → Nat} {N i : Nat} {q : Nat → Nat → Nat} {I : Nat → Nat → Int32} (hN : N ≤ 120) (hc : ∀ i, i < N → c i < 128) (hi : i ≤ N) (h : lR c N i false I) (hq : rQ q I) (hsk : pSk c N i = i) (h33 : pCh c N i = 33) (h35 : q 117 35 < 125) (h42 : q 117 42 < 40) : (∃ i' q' I', pAl c N i (i + 1) q = (true, i', q') ∧ fQ0 I I' ∧ lR c N i' false I' ∧ rQ q' I' ∧ i + 4 ≤ i' ∧ i' ≤ N ∧ q' 117 48 = q 117 48 ∧ q' 117 44 = q 117 44 ∧ q' 117 35 = q 117 35 + 1 ∧ q' 117 42 = q 117 42 + 1 ∧ jcall (d + 4) 207 [.ref 117] (jGs L g, I, J) = some (none, (jGs L g, I', J))) ∨ (∃ p q' I', pAl c N i (i + 1) q = (false, p, q') ∧ fQ0 I I' ∧ lR c N p true I' ∧ p ≤ N ∧ zC (q 117 35 + 1) (q 117 44) (q 117 42 + 1) (q 117 48) I' ∧ jcall (d + 4) 207 [.ref 117] (jGs L g, I, J) = some (none, (jGs L g, I', J))) := by
  have hlt := pCh_lt (c := c) (N := N) (i := i) (by omega)
  rw [hsk] at hlt
  obtain ⟨I2, b1, b2, b3⟩ := r_takes_t (d + 1) L g (J := J) hN hc hi (show 33 < 128 by omega) h h33
  rw [hsk] at b2
  rw [c_TextValuesModel_readsAlarm, e_TextValuesModel_readsAlarm_0, show (33 : Int32) = nI 33 from rfl, b3, jcI_some, h.1.2.2, e_TextValuesModel_readsAlarm_11, show (0 : Int32) = nI 0 from rfl]
  unfold pAl
  generalize hj : i + 1 = j at b2
  have hjN : j ≤ N := by omega
  obtain ⟨j1, j2⟩ := pSk_le (c := c) hjN
  cases h2 : nO 0 (pCh c N j) with
  | none =>
    obtain ⟨I3, c1, c2, c3⟩ := r_number_n d L g (J := J) (s := 0) hN hc hjN (by omega) b2 h2
    obtain ⟨I', e1, e2, e3, e4⟩ := r_al_17f d L g (J := J) (x1 := nI i) (y := -1) c2 (zC_e (rQ_z hq) (eL_t b1 c1)) (by omega) h42
    refine Or.inr ⟨_, _, I', rfl, fQ0_t (fQ0_e (eL_t b1 c1)) e1, e2, j2, e3, ?_⟩
    rw [c3, jcI_some]
    exact e4
  | some v =>
    have jlt := pCh_lt (c := c) (N := N) (i := j) (by have := (nO_lt h2).2; omega)
    obtain ⟨I3, c1, c2, c3⟩ := r_number_t d L g (J := J) (s := 0) hN hc hjN (by omega) b2 h2
    have f3 : eL I I3 := eL_t b1 c1
    rw [c3, jcI_some, e_TextValuesModel_readsAlarm_17, show (1 : Int32) = nI 1 from rfl]
    generalize hk : pSk c N j + 1 = k at c2
    have hkN : k ≤ N := by omega
    obtain ⟨m1, m2⟩ := pSk_le (c := c) hkN
    show (∃ i' q' I', (match nO 1 (pCh c N k) with
      | none => (false, pSk c N k, q)
      | some w => if pCh c N (pSk c N k + 1) = 59 then (true, pSk c N (pSk c N k + 1) + 1, ju (qCome (ju q 143 (q 117 42) i) 3 v w (q 117 42)) 117 42 (q 117 42 + 1)) else (false, pSk c N (pSk c N k + 1), q)) = (true, i', q') ∧ _) ∨ (∃ p q' I', (match nO 1 (pCh c N k) with
      | none => (false, pSk c N k, q)
      | some w => if pCh c N (pSk c N k + 1) = 59 then (true, pSk c N (pSk c N k + 1) + 1, ju (qCome (ju q 143 (q 117 42) i) 3 v w (q 117 42)) 117 42 (q 117 42 + 1)) else (false, pSk c N (pSk c N k + 1), q)) = (false, p, q') ∧ _)
    cases h3 : nO 1 (pCh c N k) with
    | none =>
      obtain ⟨I4, e1, e2, e3⟩ := r_number_n d L g (J := J) (s := 1) hN hc hkN (by omega) c2 h3
      obtain ⟨I', g1, g2, g3, g4⟩ := r_al_23f (d + 2) L g (J := J) (x1 := nI i) (x2 := nI v) (y := -1) e2 (zC_e (rQ_z hq) (eL_t f3 e1)) (by omega) h42
      refine Or.inr ⟨_, _, I', rfl, fQ0_t (fQ0_e (eL_t f3 e1)) g1, g2, m2, g3, ?_⟩
      rw [e3, jcI_some]
      exact g4
    | some w =>
      have klt := pCh_lt (c := c) (N := N) (i := k) (by have := (nO_lt h3).2; omega)
      obtain ⟨I4, e1, e2, e3⟩ := r_number_t d L g (J := J) (s := 1) hN hc hkN (by omega) c2 h3
      have f4 : eL I I4 := eL_t f3 e1
      rw [e3, jcI_some, e_TextValuesModel_readsAlarm_23, show (59 : Int32) = nI 59 from rfl]
      generalize hm : pSk c N k + 1 = m at e2
      have hmN : m ≤ N := by omega
      obtain ⟨n1, n2⟩ := pSk_le (c := c) hmN
      show (∃ i' q' I', (if pCh c N m = 59 then (true, pSk c N m + 1, ju (qCome (ju q 143 (q 117 42) i) 3 v w (q 117 42)) 117 42 (q 117 42 + 1)) else (false, pSk c N m, q)) = (true, i', q') ∧ _) ∨ (∃ p q' I', (if pCh c N m = 59 then (true, pSk c N m + 1, ju (qCome (ju q 143 (q 117 42) i) 3 v w (q 117 42)) 117 42 (q 117 42 + 1)) else (false, pSk c N m, q)) = (false, p, q') ∧ _)
      by_cases h59 : pCh c N m = 59
      · have mlt := pCh_lt (c := c) (N := N) (i := m) (by omega)
        obtain ⟨I5, g1, g2, g3⟩ := r_takes_t (d + 1) L g (J := J) hN hc hmN (show 59 < 128 by omega) e2 h59
        have hq5 := rQ_e hq (eL_t f4 g1)
        have hq6 := rQ_al (a0 := i) (v := v) (w := w) (x := -1) hq5
        refine Or.inl ⟨_, _, _, if_pos h59, ?_, ?_, hq6, by omega, by omega, ?_, ?_, ?_, zu_at _ _ _ _, ?_⟩
        · exact fQ0_t (fQ0_e (eL_t f4 g1)) (fun a k hx => by unfold qX at hx; rw [ju_ne (by omega), ju_ne (by omega), ju_ne (by omega), ju_ne (by omega), ju_ne (by omega), ju_ne (by omega), ju_ne (by omega), ju_ne (by omega)])
        · exact lR_p g2 (fun a k hak => by rw [ju_ne (by omega), ju_ne (by omega), ju_ne (by omega), ju_ne (by omega), ju_ne (by omega), ju_ne (by omega), ju_ne (by omega), ju_ne (by omega)])
        · rw [zu_k (by omega), qCome_r (by omega) (by omega), zu_a (by omega)]
        · rw [zu_k (by omega), qCome_r (by omega) (by omega), zu_a (by omega)]
        · rw [zu_k (by omega), qCome_35, zu_a (by omega)]
        · have h1 : ju I5 143 (q 117 42) (nI i) 117 35 = nI (q 117 35) := by rw [zu_a (by omega)]; exact hq5.1.1
          rw [g3, jcI_some, e_TextValuesModel_readsAlarm_30, hq5.1.2.2.1, jin_nI (by omega) (by omega), nI_c (by omega), cond_true, c_TextValuesModel_comes, e_TextValuesModel_comes_0, h1, jin_nI (by omega) (by omega), nI_c (by omega), cond_true, cond_true, cond_true, cond_true, cond_true, jcI_some, e_TextValuesModel_readsAlarm_52]
          have h42' : ∀ z : Int32, ju (ju (ju (ju (ju (ju (ju I5 143 (q 117 42) (nI i)) 138 (q 117 35) 3) 139 (q 117 35) (nI v)) 140 (q 117 35) (nI w)) 141 (q 117 35) (nI (q 117 42))) 142 (q 117 35) (-1)) 117 35 z 117 42 = nI (q 117 42) := fun z => by
            simp (disch := omega) only [zu_a, zu_k]
            exact hq5.1.2.2.1
          rw [h42', nI_1, nI_1]
          rfl
      · obtain ⟨I5, g1, g2, g3⟩ := r_takes_n (d + 1) L g (J := J) hN hc hmN (show 59 < 128 by omega) e2 h59
        obtain ⟨I', o1, o2, o3, o4⟩ := r_al_30f (d + 2) L g (J := J) (x1 := nI i) (x2 := nI v) (x3 := nI w) (y := nI 0) g2 (zC_e (rQ_z hq) (eL_t f4 g1)) (by omega) h42
        refine Or.inr ⟨_, _, I', if_neg h59, fQ0_t (fQ0_e (eL_t f4 g1)) o1, o2, n2, o3, ?_⟩
        rw [g3, jcI_some]
        exact o4
end MM

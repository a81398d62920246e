/-! THE REFERENCE: a variable's statement -/
set_option maxRecDepth 100000
section MM
variable (d L : Nat) (g : jG) {J : Nat → Nat → Int64}
theorem r_ov_5 {c : Nat → Nat} {N i v : Nat} {q : Nat → Nat → Nat} {I : Nat → Nat → Int32} (hN : N ≤ 120) (hc : ∀ i, i < N → c i < 128) (hi : i ≤ N) (h : lR c N i false I) (hq : rQ q I) (ht : q 117 48 < i) (h44 : q 117 44 < i) (h35 : q 117 35 < 125) : (∃ i' q' I', pVar c N v i q = (true, i', q') ∧ fQ0 I I' ∧ lR c N i' false I' ∧ rQ q' I' ∧ i < i' ∧ i' ≤ N ∧ q' 117 48 < i' ∧ q' 117 44 < i' ∧ q' 117 35 = q 117 35 + 1 ∧ q' 117 42 = q 117 42 ∧ jval (d + 5) 206 5 [.ref 117, jjunk, jjunk, jjunk] [.int (nI v)] (jGs L g, I, J) = some (none, (jGs L g, I', J))) ∨ (∃ p q' I' pm t, pVar c N v i q = (false, p, q') ∧ fQ0 I I' ∧ lR c N p true I' ∧ p ≤ N ∧ pm ≤ 120 ∧ zC (q 117 35 + 1) pm (q 117 42) t I' ∧ jval (d + 5) 206 5 [.ref 117, jjunk, jjunk, jjunk] [.int (nI v)] (jGs L g, I, J) = some (none, (jGs L g, I', J))) := by
  obtain ⟨hs1, hs2⟩ := pSk_le (c := c) hi
  obtain ⟨k1, k2⟩ := pSk_pSk c N i hi
  obtain ⟨I1, a1, a2, a3⟩ := r_hereL (d + 4) L g (J := J) hN hc hi h
  have hq1 := rQ_e hq a1
  rw [e_TextValuesModel_ofVariable_5, a3, jcI_some, e_TextValuesModel_ofVariable_10]
  unfold pVar
  by_cases h61 : pCh c N i = 61
  · have hlt := pCh_lt (c := c) (N := N) (i := i) (by omega)
    obtain ⟨I2, b1, b2, b3⟩ := r_takes_t (d + 3) L g (J := J) hN hc hs2 (show 61 < 128 by omega) a2 (k2.trans h61)
    rw [k1] at b2
    have hq2 := rQ_e hq1 b1
    rw [if_pos h61, jif_t (by rw [show (61 : Int32) = nI 61 from rfl, hV_pCh hc (by omega)]; exact h61), show (61 : Int32) = nI 61 from rfl, b3, jcI_some, e_TextValuesModel_ofVariable_21]
    rcases r_makesTold d L g (J := J) (v := v) hN hc (show pSk c N i + 1 ≤ N by omega) b2 hq2 (by omega) (by omega) h35 with ⟨i', q', I', z1, z2, z3, z4, z5, z6, z7, z8, z9, z10⟩ | ⟨p, q', I', pm, t, z1, z2, z3, z4, z5, z6, z7⟩
    · rw [z1, z10, jcV_some, e_TextValuesModel_ofVariable_27, e_TextValuesModel_ofVariable_65]
      refine Or.inl ⟨i', _, I', rfl, fQ0_t (fQ0_e (eL_t a1 b1)) z2, z3, rQ_1000 z4, by omega, z6, ?_, ?_, ?_, ?_, rfl⟩
      · rw [zu_a (by omega), qCome_r (by omega) (by omega)]; exact z7
      · rw [zu_a (by omega), qCome_r (by omega) (by omega)]; exact z8
      · rw [zu_a (by omega), qCome_35, z9 _ _ (by omega) (by omega) (by omega) (by omega) (by omega)]
      · rw [zu_a (by omega), qCome_r (by omega) (by omega), z9 _ _ (by omega) (by omega) (by omega) (by omega) (by omega)]
    · rw [z1, z7, jcV_some, e_TextValuesModel_ofVariable_27, e_TextValuesModel_ofVariable_65]
      exact Or.inr ⟨p, q', I', pm, t, rfl, fQ0_t (fQ0_e (eL_t a1 b1)) z2, z3, z4, z5, z6, rfl⟩
  · rw [if_neg h61, jif_f (by rw [show (61 : Int32) = nI 61 from rfl, hV_pCh hc (by omega)]; exact h61), show (47 : Int32) = nI 47 from rfl]
    by_cases h47 : pCh c N i = 47
    · have hlt := pCh_lt (c := c) (N := N) (i := i) (by omega)
      obtain ⟨I2, b1, b2, b3⟩ := r_takes_t (d + 3) L g (J := J) hN hc hs2 (show 47 < 128 by omega) a2 (k2.trans h47)
      rw [k1] at b2
      have f2 : eL I I2 := eL_t a1 b1
      rw [if_pos h47, b3, jcI_some]
      generalize hj : pSk c N i + 1 = j at b2
      have hjN : j ≤ N := by omega
      obtain ⟨j1, j2⟩ := pSk_le (c := c) hjN
      cases h2 : nO 2 (pCh c N j) with
      | none =>
        obtain ⟨I3, c1, c2, c3⟩ := r_number_n (d + 2) L g (J := J) (s := 2) hN hc hjN (by omega) b2 h2
        obtain ⟨I', e1, e2, e3, e4⟩ := r_ov_42f (d + 2) L g (J := J) (x1 := nI v) (y := -1) c2 (zC_e (rQ_z hq) (eL_t f2 c1)) (by omega)
        refine Or.inr ⟨_, _, I', _, _, rfl, fQ0_t (fQ0_e (eL_t f2 c1)) e1, e2, j2, by omega, e3, ?_⟩
        rw [e_TextValuesModel_ofVariable_36, show (2 : Int32) = nI 2 from rfl, c3, jcI_some]
        exact e4
      | some a =>
        have jlt := pCh_lt (c := c) (N := N) (i := j) (by have := (nO_lt h2).2; omega)
        obtain ⟨I3, c1, c2, c3⟩ := r_number_t (d + 2) L g (J := J) (s := 2) hN hc hjN (by omega) b2 h2
        have f3 : eL I I3 := eL_t f2 c1
        rw [e_TextValuesModel_ofVariable_36, show (2 : Int32) = nI 2 from rfl, c3, jcI_some]
        generalize hk : pSk c N j + 1 = k at c2
        have hkN : k ≤ N := by omega
        obtain ⟨m1, m2⟩ := pSk_le (c := c) hkN
        show (∃ i' q' I', (match nO 3 (pCh c N k) with
          | none => (false, pSk c N k, q)
          | some b => if pCh c N (pSk c N k + 1) = 59 then (true, pSk c N (pSk c N k + 1) + 1, qCome q 2 v a b) else (false, pSk c N (pSk c N k + 1), q)) = (true, i', q') ∧ _) ∨ (∃ p q' I' pm t, (match nO 3 (pCh c N k) with
          | none => (false, pSk c N k, q)
          | some b => if pCh c N (pSk c N k + 1) = 59 then (true, pSk c N (pSk c N k + 1) + 1, qCome q 2 v a b) else (false, pSk c N (pSk c N k + 1), q)) = (false, p, q') ∧ _)
        cases h3 : nO 3 (pCh c N k) with
        | none =>
          obtain ⟨I4, e1, e2, e3⟩ := r_number_n (d + 2) L g (J := J) (s := 3) hN hc hkN (by omega) c2 h3
          obtain ⟨I', g1, g2, g3, g4⟩ := r_ov_48f (d + 4) L g (J := J) (x1 := nI v) (x2 := nI a) (y := -1) e2 (zC_e (rQ_z hq) (eL_t f3 e1)) (by omega)
          refine Or.inr ⟨_, _, I', _, _, rfl, fQ0_t (fQ0_e (eL_t f3 e1)) g1, g2, m2, by omega, g3, ?_⟩
          rw [e_TextValuesModel_ofVariable_42, show (3 : Int32) = nI 3 from rfl, e3, jcI_some]
          exact g4
        | some b =>
          have klt := pCh_lt (c := c) (N := N) (i := k) (by have := (nO_lt h3).2; omega)
          obtain ⟨I4, e1, e2, e3⟩ := r_number_t (d + 2) L g (J := J) (s := 3) hN hc hkN (by omega) c2 h3
          have f4 : eL I I4 := eL_t f3 e1
          rw [e_TextValuesModel_ofVariable_42, show (3 : Int32) = nI 3 from rfl, e3, jcI_some, e_TextValuesModel_ofVariable_48, show (59 : Int32) = nI 59 from rfl]
          generalize hm : pSk c N k + 1 = m at e2
          have hmN : m ≤ N := by omega
          obtain ⟨n1, n2⟩ := pSk_le (c := c) hmN
          show (∃ i' q' I', (if pCh c N m = 59 then (true, pSk c N m + 1, qCome q 2 v a b) else (false, pSk c N m, q)) = (true, i', q') ∧ _) ∨ (∃ p q' I' pm t, (if pCh c N m = 59 then (true, pSk c N m + 1, qCome q 2 v a b) else (false, pSk c N m, q)) = (false, p, q') ∧ _)
          by_cases h59 : pCh c N m = 59
          · have mlt := pCh_lt (c := c) (N := N) (i := m) (by omega)
            obtain ⟨I5, g1, g2, g3⟩ := r_takes_t (d + 3) L g (J := J) hN hc hmN (show 59 < 128 by omega) e2 h59
            obtain ⟨I6, o1, o2, o3, -, -, o4⟩ := r_comes (d + 4) L g (J := J) (s := 2) (a := v) (b := a) (e := b) (rQ_e hq (eL_t f4 g1)) g2 (by omega)
            refine Or.inl ⟨_, _, I6, if_pos h59, fQ0_t (fQ0_e (eL_t f4 g1)) o1, o2, o3, by omega, by omega, ?_, ?_, qCome_35 _ _ _ _ _, ?_, ?_⟩
            · rw [qCome_r (by omega) (by omega)]; omega
            · rw [qCome_r (by omega) (by omega)]; omega
            · rw [qCome_r (by omega) (by omega)]
            · rw [g3, jcI_some, e_TextValuesModel_ofVariable_55, show (2 : Int32) = nI 2 from rfl, o4, jcI_some, e_TextValuesModel_ofVariable_64, e_TextValuesModel_ofVariable_65]
          · obtain ⟨I5, g1, g2, g3⟩ := r_takes_n (d + 3) L g (J := J) hN hc hmN (show 59 < 128 by omega) e2 h59
            obtain ⟨I', o1, o2, o3, o4⟩ := r_ov_55f (d + 4) L g (J := J) (x1 := nI v) (x2 := nI a) (x3 := nI b) (y := nI 0) g2 (zC_e (rQ_z hq) (eL_t f4 g1)) (by omega)
            refine Or.inr ⟨_, _, I', _, _, if_neg h59, fQ0_t (fQ0_e (eL_t f4 g1)) o1, o2, n2, by omega, o3, ?_⟩
            rw [g3, jcI_some]
            exact o4
    · obtain ⟨I2, b1, b2, b3⟩ := r_takes_n (d + 3) L g (J := J) hN hc hs2 (show 47 < 128 by omega) a2 (fun e => h47 (k2.symm.trans e))
      rw [k1] at b2
      obtain ⟨I', e1, e2, e3, e4⟩ := r_ov_36f (d + 2) L g (J := J) (x1 := nI v) (y := nI 0) b2 (zC_e (rQ_z hq) (eL_t a1 b1)) (by omega)
      rw [if_neg h47, b3, jcI_some]
      exact Or.inr ⟨_, _, I', _, _, rfl, fQ0_t (fQ0_e (eL_t a1 b1)) e1, e2, hs2, by omega, e3, e4⟩
end MM

/-! THE REFERENCE: begins from its start -/
set_option maxRecDepth 100000
section MM
variable (d L : Nat) (g : jG) {J : Nat → Nat → Int64}
theorem r_begins {c : Nat → Nat} {N i k x : Nat} {q : Nat → Nat → Nat} {I : Nat → Nat → Int32} (hN : N ≤ 120) (hc : ∀ i, i < N → c i < 128) (hi : i ≤ N) (h : lR c N i false I) (hq : rQ q I) (hsk : pSk c N i = i) (hpc : pCh c N i = x) (hx : x = 63 ∨ x = 35 ∨ x = 43 ∨ x = 42) (h55 : I 117 55 = nI k) (hk : k ≤ 5) (h35 : q 117 35 < 125) : (∃ i' q' I', pHd c N x (i + 1) q = (true, i', q') ∧ i < i' ∧ i' ≤ N ∧ k < 5 ∧ pCh c N i' = 123 ∧ fQ1 I I' ∧ lR c N (pSk c N i' + 1) false I' ∧ rQ q' I' ∧ I' 117 55 = nI (k + 1) ∧ I' 149 k = nI (q 117 35) ∧ I' 150 k = nI 0 ∧ (∀ j, j ≠ k → I' 149 j = I 149 j ∧ I' 150 j = I 150 j) ∧ (∃ a b, q' = qCome q (sortO x) a b 0) ∧ jcall (d + 4) 210 [.ref 117, .int (nI x)] (jGs L g, I, J) = some (none, (jGs L g, I', J))) ∨ (∃ p I', ((∃ q', pHd c N x (i + 1) q = (false, p, q')) ∨ ∃ i' q', pHd c N x (i + 1) q = (true, i', q') ∧ (k = 5 ∨ pCh c N i' ≠ 123) ∧ p = pSk c N i') ∧ fQ1 I I' ∧ lR c N p true I' ∧ p ≤ N ∧ zC (q 117 35 + 1) (q 117 44) (q 117 42) (q 117 48) I' ∧ jcall (d + 4) 210 [.ref 117, .int (nI x)] (jGs L g, I, J) = some (none, (jGs L g, I', J))) := by
  have hx128 : x < 128 := by omega
  have hlt := pCh_lt (c := c) (N := N) (i := i) (by omega)
  rw [hsk] at hlt
  obtain ⟨I1, a1, a2, a3⟩ := r_takes_t (d + 1) L g (J := J) hN hc hi hx128 h hpc
  rw [hsk] at a2
  have hq1 := rQ_e hq a1
  have h551 : I1 117 55 = nI k := by rw [a1 _ _ (by omega)]; exact h55
  rw [c_TextValuesModel_begins, e_TextValuesModel_begins_0, a3, jcI_some]
  by_cases hask : x = 63 ∨ x = 35
  · have e5 : jval (d + 3) 210 5 [.ref 117, .int (nI x), jjunk, jjunk, jjunk, jjunk] [.int (nI 1)] (jGs L g, I1, J) = jcI (jcall (d + 3) 201 [.ref 117, .int (nI 0)] (jGs L g, I1, J)) (fun r2 S1 => jval (d + 3) 210 33 [.ref 117, .int (nI x), .int (1 : Int32), jjunk, jjunk, jjunk] [.int r2] S1) := by
      rw [e_TextValuesModel_begins_5]
      rcases hask with e | e <;> subst e
      · rw [jif_t (by decide), e_TextValuesModel_begins_18, e_TextValuesModel_begins_23, jif_f (by decide)]; rfl
      · rw [jif_f (by decide), jif_t (by decide), e_TextValuesModel_begins_18, e_TextValuesModel_begins_23, jif_f (by decide)]; rfl
    rw [e5]
    unfold pHd
    rw [if_pos hask]
    generalize hj : i + 1 = j at a2
    have hjN : j ≤ N := by omega
    obtain ⟨j1, j2⟩ := pSk_le (c := c) hjN
    cases h2 : nO 0 (pCh c N j) with
    | none =>
      obtain ⟨I2, b1, b2, b3⟩ := r_number_n d L g (J := J) (s := 0) hN hc hjN (by omega) a2 h2
      obtain ⟨I3, c1, c2, c3⟩ := r_number_f d L g (J := J) (s := 1) (by omega) b2
      obtain ⟨I4, e1, e2, e3, e4⟩ := r_bg_86f (d + 1) L g (J := J) (x3 := -1) (x4 := -1) (xs := nI (sortO x)) c2 (zC_e (rQ_z hq) (eL_t a1 (eL_t b1 c1))) (by omega)
      refine Or.inr ⟨_, I4, Or.inl ⟨_, rfl⟩, fQ1_0 (fQ0_t (fQ0_e (eL_t a1 (eL_t b1 c1))) e1), e2, j2, e3, ?_⟩
      rw [b3, jcI_some, e_TextValuesModel_begins_33, e_TextValuesModel_begins_37, jif_f (by decide), show (1 : Int32) = nI 1 from rfl, c3, jcI_some, e_TextValuesModel_begins_47, r_bg_51 (d + 3) L g hx]
      exact e4
    | some v =>
      have jlt := pCh_lt (c := c) (N := N) (i := j) (by have := (nO_lt h2).2; omega)
      obtain ⟨I2, b1, b2, b3⟩ := r_number_t d L g (J := J) (s := 0) hN hc hjN (by omega) a2 h2
      have f2 : eL I I2 := eL_t a1 b1
      rw [b3, jcI_some, e_TextValuesModel_begins_33, e_TextValuesModel_begins_37, jif_f (by decide), show (1 : Int32) = nI 1 from rfl]
      show (∃ i' q' I', (match nO 1 (pCh c N (pSk c N j + 1)) with
        | none => (false, pSk c N (pSk c N j + 1), q)
        | some w => (true, pSk c N (pSk c N j + 1) + 1, qCome q (sortO x) v w 0)) = (true, i', q') ∧ _) ∨ (∃ p I', ((∃ q', (match nO 1 (pCh c N (pSk c N j + 1)) with
        | none => (false, pSk c N (pSk c N j + 1), q)
        | some w => (true, pSk c N (pSk c N j + 1) + 1, qCome q (sortO x) v w 0)) = (false, p, q')) ∨ ∃ i' q', (match nO 1 (pCh c N (pSk c N j + 1)) with
        | none => (false, pSk c N (pSk c N j + 1), q)
        | some w => (true, pSk c N (pSk c N j + 1) + 1, qCome q (sortO x) v w 0)) = (true, i', q') ∧ _) ∧ _)
      generalize hkk : pSk c N j + 1 = m at b2
      have hmN : m ≤ N := by omega
      obtain ⟨m1, m2⟩ := pSk_le (c := c) hmN
      cases h3 : nO 1 (pCh c N m) with
      | none =>
        obtain ⟨I3, c1, c2, c3⟩ := r_number_n d L g (J := J) (s := 1) hN hc hmN (by omega) b2 h3
        obtain ⟨I4, e1, e2, e3, e4⟩ := r_bg_86f (d + 1) L g (J := J) (x3 := nI v) (x4 := -1) (xs := nI (sortO x)) c2 (zC_e (rQ_z hq) (eL_t f2 c1)) (by omega)
        refine Or.inr ⟨_, I4, Or.inl ⟨_, rfl⟩, fQ1_0 (fQ0_t (fQ0_e (eL_t f2 c1)) e1), e2, m2, e3, ?_⟩
        rw [c3, jcI_some, e_TextValuesModel_begins_47, r_bg_51 (d + 3) L g hx]
        exact e4
      | some w =>
        have mlt := pCh_lt (c := c) (N := N) (i := m) (by have := (nO_lt h3).2; omega)
        obtain ⟨I3, c1, c2, c3⟩ := r_number_t d L g (J := J) (s := 1) hN hc hmN (by omega) b2 h3
        have f3 : eL I I3 := eL_t f2 c1
        rw [c3, jcI_some, e_TextValuesModel_begins_47, r_bg_51 (d + 3) L g hx]
        rcases r_bg_86 d L g (J := J) (s := sortO x) (a := v) (b := w) hN hc (show pSk c N m + 1 ≤ N by omega) c2 (rQ_e hq f3) (by rw [f3 _ _ (by omega)]; exact h55) hk h35 with ⟨y1, y2, I', z1, z2, z3, z4, z5, z6, z7, z8⟩ | ⟨y1, I', z1, z2, z3, z4⟩
        · exact Or.inl ⟨_, _, I', rfl, by omega, by omega, y1, y2, fQ1_t (fQ1_e f3) z1, z2, z3, z4, z5, z6, fun j hj => ⟨(z7 j hj).1.trans (f3 _ _ (by omega)), (z7 j hj).2.trans (f3 _ _ (by omega))⟩, ⟨v, w, rfl⟩, z8⟩
        · exact Or.inr ⟨_, I', Or.inr ⟨_, _, rfl, y1, rfl⟩, fQ1_t (fQ1_e f3) z1, z2, (pSk_le (show pSk c N m + 1 ≤ N by omega)).2, z3, z4⟩
  · have e5 : jval (d + 3) 210 5 [.ref 117, .int (nI x), jjunk, jjunk, jjunk, jjunk] [.int (nI 1)] (jGs L g, I1, J) = jval (d + 3) 210 86 [.ref 117, jjunk, jjunk, .int (nI 0), .int (nI 0), jjunk] [.int (nI (sortO x))] (jGs L g, I1, J) := by
      rw [e_TextValuesModel_begins_5, jif_f (show ¬ nI x = (63 : Int32) from fun e => hask (Or.inl ((nI_eq (b := 63) (by omega) (by omega)).mp e))), jif_f (show ¬ nI x = (35 : Int32) from fun e => hask (Or.inr ((nI_eq (b := 35) (by omega) (by omega)).mp e))), e_TextValuesModel_begins_23, jif_t rfl, e_TextValuesModel_begins_37, jif_t rfl, r_bg_51 (d + 3) L g hx]
      rfl
    rw [e5]
    unfold pHd
    rw [if_neg hask]
    rcases r_bg_86 d L g (J := J) (s := sortO x) (a := 0) (b := 0) hN hc (show i + 1 ≤ N by omega) a2 hq1 h551 hk h35 with ⟨y1, y2, I', z1, z2, z3, z4, z5, z6, z7, z8⟩ | ⟨y1, I', z1, z2, z3, z4⟩
    · exact Or.inl ⟨_, _, I', rfl, by omega, by omega, y1, y2, fQ1_t (fQ1_e a1) z1, z2, z3, z4, z5, z6, fun j hj => ⟨(z7 j hj).1.trans (a1 _ _ (by omega)), (z7 j hj).2.trans (a1 _ _ (by omega))⟩, ⟨0, 0, rfl⟩, z8⟩
    · exact Or.inr ⟨_, I', Or.inr ⟨_, _, rfl, y1, rfl⟩, fQ1_t (fQ1_e a1) z1, z2, (pSk_le (show i + 1 ≤ N by omega)).2, z3, z4⟩
end MM

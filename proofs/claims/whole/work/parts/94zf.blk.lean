/-! THE REFERENCE: the reading loop is pBlk -/
set_option maxRecDepth 100000
theorem pGo_t {i' : Nat} {q' : Nat → Nat → Nat} {k : Nat → (Nat → Nat → Nat) → Bool × Nat × (Nat → Nat → Nat)} : pGo (true, i', q') k = k i' q' := rfl
theorem pGo_f {i' : Nat} {q' : Nat → Nat → Nat} {k : Nat → (Nat → Nat → Nat) → Bool × Nat × (Nat → Nat → Nat)} : pGo (false, i', q') k = (false, i', q') := rfl
theorem isB_t {x : Nat} (h : ¬ isB x = false) (hv : vO x = none) (h33 : x ≠ 33) : x = 63 ∨ x = 35 ∨ x = 43 ∨ x = 42 := by
  unfold isB at h
  rw [hv] at h
  have h1 : decide (x = 33 ∨ x = 63 ∨ x = 35 ∨ x = 43 ∨ x = 42) = true := by
    cases hd : decide (x = 33 ∨ x = 63 ∨ x = 35 ∨ x = 43 ∨ x = 42) with
    | true => rfl
    | false => rw [hd] at h; exact absurd rfl h
  have := of_decide_eq_true h1
  omega
theorem pSec_at {q : Nat → Nat → Nat} {s so : Nat} (hs : s < q 117 35) : qSec q s so 117 35 = q 117 35 + 1 ∧ qSec q s so 141 (q 117 35) = so := by
  unfold qSec qMate qCome
  constructor <;> simp (disch := omega) only [zu_a, zu_k, zu_at]
section MM
variable (d L : Nat) (g : jG) {J : Nat → Nat → Int64}
theorem r_blk {c : Nat → Nat} {N : Nat} (hN : N ≤ 120) (hc : ∀ i, i < N → c i < 128) : ∀ f k i q I, N + 1 ≤ f + i → i ≤ N → k ≤ 5 → lR c N i false I → rQ q I → I 117 55 = nI k → pBd i q → (∃ i0 i' q' I', pBlk c N f k i q = (true, i', q') ∧ pSk c N i0 = i' ∧ i ≤ i0 ∧ i0 ≤ N ∧ isB (pCh c N i0) = false ∧ fQ1 I I' ∧ lR c N i0 false I' ∧ rQ q' I' ∧ I' 117 55 = nI k ∧ (∀ j, j < k → I' 149 j = I 149 j ∧ I' 150 j = I 150 j) ∧ pBd i0 q' ∧ jval (d + 7) 212 40 [.ref 117] [] (jGs L g, I, J) = jval (d + 7) 212 40 [.ref 117] [] (jGs L g, I', J)) ∨ (∃ p q' I', pBlk c N f k i q = (false, p, q') ∧ fQ1 I I' ∧ lR c N p true I' ∧ p ≤ N ∧ jval (d + 7) 212 40 [.ref 117] [] (jGs L g, I, J) = jval (d + 7) 212 40 [.ref 117] [] (jGs L g, I', J)) := by
  intro f
  induction f with
  | zero => intro k i q I hf hi; omega
  | succ f ih =>
    intro k i q I hf hi hk h hq h55 hb
    unfold pBlk
    by_cases hB : isB (pCh c N i) = false
    · rw [if_pos hB]
      exact Or.inl ⟨i, _, q, I, rfl, rfl, Nat.le_refl _, hi, hB, fun _ _ _ => rfl, h, hq, h55, fun _ _ => ⟨rfl, rfl⟩, hb, rfl⟩
    · rw [if_neg hB]
      obtain ⟨hs1, hs2⟩ := pSk_le (c := c) hi
      -- how it goes on behind a statement
      have go : ∀ i1 q1 I1, i < i1 → i1 ≤ N → fQ1 I I1 → lR c N i1 false I1 → rQ q1 I1 → I1 117 55 = nI k → (∀ j, j < k → I1 149 j = I 149 j ∧ I1 150 j = I 150 j) → pBd i1 q1 → jval (d + 7) 212 40 [.ref 117] [] (jGs L g, I, J) = jval (d + 7) 212 40 [.ref 117] [] (jGs L g, I1, J) → (∃ i0 i' q' I', pBlk c N f k i1 q1 = (true, i', q') ∧ pSk c N i0 = i' ∧ i ≤ i0 ∧ i0 ≤ N ∧ isB (pCh c N i0) = false ∧ fQ1 I I' ∧ lR c N i0 false I' ∧ rQ q' I' ∧ I' 117 55 = nI k ∧ (∀ j, j < k → I' 149 j = I 149 j ∧ I' 150 j = I 150 j) ∧ pBd i0 q' ∧ jval (d + 7) 212 40 [.ref 117] [] (jGs L g, I, J) = jval (d + 7) 212 40 [.ref 117] [] (jGs L g, I', J)) ∨ (∃ p q' I', pBlk c N f k i1 q1 = (false, p, q') ∧ fQ1 I I' ∧ lR c N p true I' ∧ p ≤ N ∧ jval (d + 7) 212 40 [.ref 117] [] (jGs L g, I, J) = jval (d + 7) 212 40 [.ref 117] [] (jGs L g, I', J)) := by
        intro i1 q1 I1 y1 y2 y3 y4 y5 y6 y7 y8 y9
        rcases ih k i1 q1 I1 (by omega) y2 hk y4 y5 y6 y8 with ⟨i0, i', q', I', z1, z2, z3, z4, z5, z6, z7, z8, z9, z10, z11, z12⟩ | ⟨p, q', I', z1, z2, z3, z4, z5⟩
        · exact Or.inl ⟨i0, i', q', I', z1, z2, by omega, z4, z5, fQ1_t y3 z6, z7, z8, z9, fun j hj => ⟨(z10 j hj).1.trans (y7 j hj).1, (z10 j hj).2.trans (y7 j hj).2⟩, z11, y9.trans z12⟩
        · exact Or.inr ⟨p, q', I', z1, fQ1_t y3 z2, z3, z4, y9.trans z5⟩
      cases hv : vO (pCh c N i) with
      | some v =>
        show (∃ i0 i' q' I', pGo (pVar c N v (pSk c N i + 1) (qSt q)) (fun i' q' => pBlk c N f k i' q') = (true, i', q') ∧ _) ∨ (∃ p q' I', pGo (pVar c N v (pSk c N i + 1) (qSt q)) (fun i' q' => pBlk c N f k i' q') = (false, p, q') ∧ _)
        rcases r_lp_var d L g (J := J) hN hc hi h hq h55 hk hv hb with ⟨i', q', I', z1, z2, z3, z4, z5, z6, z7, z8, z9, z10⟩ | ⟨p, q', I', z1, z2, z3, z4, z5⟩
        · rw [z1, pGo_t]
          exact go i' q' I' z5 z6 (fQ1_0 z2) z3 z4 z8 (fun j _ => ⟨z9 _ _ (Or.inl rfl), z9 _ _ (Or.inr rfl)⟩) z7 z10
        · rw [z1, pGo_f]
          exact Or.inr ⟨p, q', I', rfl, fQ1_0 z2, z3, z4, z5⟩
      | none =>
        by_cases h33 : pCh c N i = 33
        · simp only [if_pos h33]
          rcases r_lp_al d L g (J := J) hN hc hi h hq h55 hk h33 hb with ⟨i', q', I', z1, z2, z3, z4, z5, z6, z7, z8, z9, z10⟩ | ⟨p, q', I', z1, z2, z3, z4, z5⟩
          · rw [z1, pGo_t]
            exact go i' q' I' z5 z6 (fQ1_0 z2) z3 z4 z8 (fun j _ => ⟨z9 _ _ (Or.inl rfl), z9 _ _ (Or.inr rfl)⟩) z7 z10
          · rw [z1, pGo_f]
            exact Or.inr ⟨p, q', I', rfl, fQ1_0 z2, z3, z4, z5⟩
        · simp only [if_neg h33]
          have hx := isB_t hB hv h33
          generalize hpc : pCh c N i = x at hx
          have hpc1 := hpc
          obtain ⟨b1, b2, b3, b4⟩ := hb
          rcases r_lp_hd d L g (J := J) hN hc hi h hq h55 hk hpc hx ⟨b1, b2, b3, b4⟩ with ⟨i1, q1, I1, z1, z2, z3, z4, z5, z6, z7, z8, z9, z10, z11, z12, ⟨a, b, z13⟩, z14⟩ | ⟨p, I', z1, z2, z3, z4, z5⟩
          · have lt1 := pCh_lt (c := c) (N := N) (i := i1) (by omega)
            obtain ⟨le1, -⟩ := pSk_le (c := c) z3
            have q35 : qSt q 117 35 = q 117 35 := qSt_r (by omega)
            have c35 : q1 117 35 = q 117 35 + 1 := by rw [z13, qCome_35, q35]
            have c44 : q1 117 44 = q 117 44 := by rw [z13, qCome_r (by omega) (by omega), qSt_r (by omega)]
            have c48 : q1 117 48 = q 117 48 := by rw [z13, qCome_r (by omega) (by omega), qSt_r (by omega)]
            have c42 : q1 117 42 = q 117 42 := by rw [z13, qCome_r (by omega) (by omega), qSt_r (by omega)]
            have c138 : q1 138 (q 117 35) = sortO x := by
              rw [z13]; unfold qCome; rw [q35]
              simp (disch := omega) only [zu_a, zu_at]
            rw [z1, pGo_t, if_pos ⟨z4, z5⟩]
            rcases ih (k + 1) (pSk c N i1 + 1) q1 I1 (by omega) (by omega) (by omega) z7 z8 z9 ⟨by omega, by omega, by omega, by omega⟩ with ⟨i0, i2, q2, I2, y1, y2, y3, y4, y5, y6, y7, y8, y9, y10, ⟨v1, v2, v3, v4⟩, y12⟩ | ⟨p, q', I', y1, y2, y3, y4, y5⟩
            · have hK : qK q1 q2 := by
                have h0 := pBlk_K c N f (k + 1) (pSk c N i1 + 1) q1
                rw [y1] at h0
                exact h0
              have K35 := hK.1.1
              have K138 : q2 138 (q 117 35) = sortO x := (hK.2.1 (q 117 35) (by omega)).1.trans c138
              obtain ⟨w1, w2⟩ := pSk_le (c := c) y4
              obtain ⟨k1, k2⟩ := pSk_pSk c N i0 y4
              rw [y2] at w1 w2 k1 k2
              have g149 : I2 149 k = nI (q 117 35) := (y10 k (by omega)).1.trans z10
              have g150 : I2 150 k = nI 0 := (y10 k (by omega)).2.trans z11
              rw [y1, pGo_t]
              unfold pTk
              by_cases h125 : pCh c N i2 = 125
              · rw [if_pos h125, pGo_t, k1]
                have lt2 := pCh_lt (c := c) (N := N) (i := i2) (by omega)
                rw [k1] at lt2
                obtain ⟨I3, e1, e2, e3⟩ := r_lp_cl (d + 5) L g (J := J) hN hc y4 y7 y9 z4 (by rw [← k2]; exact h125)
                rw [y2] at e2
                have h553 : I3 117 55 = nI (k + 1) := by rw [e1 _ _ (by omega)]; exact y9
                have hq3 := rQ_e y8 e1
                have h149 : I3 149 k = nI (q 117 35) := by rw [e1 _ _ (by omega)]; exact g149
                have h150 : I3 150 k = nI 0 := by rw [e1 _ _ (by omega)]; exact g150
                have F3 : fQ1 I I3 := fQ1_t z6 (fQ1_t y6 (fQ1_e e1))
                have S3 : ∀ j, j < k → I3 149 j = I 149 j ∧ I3 150 j = I 150 j := fun j hj => by
                  rw [e1 _ _ (by omega), e1 _ _ (by omega), (y10 j (by omega)).1, (y10 j (by omega)).2]
                  exact z12 j (by omega)
                by_cases h2p : x = 63 ∨ x = 43
                · rw [if_pos h2p]
                  have hso : sortO x = 4 ∨ sortO x = 5 := by rcases h2p with e | e <;> rw [e] <;> decide
                  rcases r_closes_sec (d + 2) L g (J := J) (s := q 117 35) (so := sortO x) hN hc lt2 e2 hq3 k1 h125 h553 z4 (by omega) (by omega) h149 h150 ⟨K138.symm, hso⟩ with ⟨o1, I4, o2, o3, o4, o5, o6, o7, o8, o9⟩ | ⟨o1, I4, o2, o3, o4⟩
                  · have lt3 := pCh_lt (c := c) (N := N) (i := i2 + 1) (by omega)
                    obtain ⟨le3, -⟩ := pSk_le (c := c) (show i2 + 1 ≤ N by omega)
                    obtain ⟨s1, s2⟩ := pSec_at (so := sortO x) (show q 117 35 < q2 117 35 by omega)
                    have s44 : qSec q2 (q 117 35) (sortO x) 117 44 = q2 117 44 := by unfold qSec qMate; rw [zu_a (by omega), qCome_r (by omega) (by omega)]
                    have s48 : qSec q2 (q 117 35) (sortO x) 117 48 = q2 117 48 := by unfold qSec qMate; rw [zu_a (by omega), qCome_r (by omega) (by omega)]
                    have s42 : qSec q2 (q 117 35) (sortO x) 117 42 = q2 117 42 := by unfold qSec qMate; rw [zu_a (by omega), qCome_r (by omega) (by omega)]
                    rw [if_pos o1, pGo_t]
                    have E4 : jval (d + 7) 212 40 [.ref 117] [] (jGs L g, I, J) = jval (d + 7) 212 40 [.ref 117] [] (jGs L g, I4, J) := by
                      rw [z14, y12, e3, o9, jcV_some, e_TextValuesModel_statement_22, jcV_some, e_TextValuesModel_readsProgram_66]
                    rcases ih (k + 1) (pSk c N (i2 + 1) + 1) (qSec q2 (q 117 35) (sortO x)) I4 (by omega) (by omega) (by omega) o3 o4 o5 ⟨by omega, by omega, by omega, by omega⟩ with ⟨i4, i5, q5, I5, t1, t2, t3, t4, t5, t6, t7, t8, t9, t10, ⟨u1, u2, u3, u4⟩, t12⟩ | ⟨p, q', I', t1, t2, t3, t4, t5⟩
                    · have hK5 : qK (qSec q2 (q 117 35) (sortO x)) q5 := by
                        have h0 := pBlk_K c N f (k + 1) (pSk c N (i2 + 1) + 1) (qSec q2 (q 117 35) (sortO x))
                        rw [t1] at h0
                        exact h0
                      have K535 := hK5.1.1
                      have K5 : q5 141 (q2 117 35) = sortO x := (hK5.2.1 (q2 117 35) (by omega)).2.2.2.1.trans s2
                      obtain ⟨m1, m2⟩ := pSk_le (c := c) t4
                      obtain ⟨n1, n2⟩ := pSk_pSk c N i4 t4
                      rw [t2] at m1 m2 n1 n2
                      rw [t1, pGo_t]
                      by_cases h125' : pCh c N i5 = 125
                      · rw [if_pos h125', pGo_t, n1]
                        have lt5 := pCh_lt (c := c) (N := N) (i := i5) (by omega)
                        rw [n1] at lt5
                        obtain ⟨I6, f1, f2, f3⟩ := r_lp_cl (d + 5) L g (J := J) hN hc t4 t7 t9 z4 (by rw [← n2]; exact h125')
                        rw [t2] at f2
                        obtain ⟨I7, p1, p2, p3, p4, p5, p6⟩ := r_closes_end (d + 3) L g (J := J) (s := q2 117 35) (b := 1) (so := sortO x) hN hc m2 f2 (rQ_e t8 f1) n1 h125' (by rw [f1 _ _ (by omega)]; exact t9) z4 (by omega) (by omega) (by rw [f1 _ _ (by omega)]; exact (t10 k (by omega)).1.trans o6) (by rw [f1 _ _ (by omega)]; exact (t10 k (by omega)).2.trans o7) (Or.inl ⟨rfl, K5.symm⟩)
                        have x35 : qEnd q5 (q2 117 35) (sortO x) 117 35 = q5 117 35 + 1 := by unfold qEnd qMate; rw [zu_a (by omega), zu_a (by omega), qCome_35]
                        have x44 : qEnd q5 (q2 117 35) (sortO x) 117 44 = q5 117 44 := by unfold qEnd qMate; rw [zu_a (by omega), zu_a (by omega), qCome_r (by omega) (by omega)]
                        have x48 : qEnd q5 (q2 117 35) (sortO x) 117 48 = q5 117 48 := by unfold qEnd qMate; rw [zu_a (by omega), zu_a (by omega), qCome_r (by omega) (by omega)]
                        have x42 : qEnd q5 (q2 117 35) (sortO x) 117 42 = q5 117 42 := by unfold qEnd qMate; rw [zu_a (by omega), zu_a (by omega), qCome_r (by omega) (by omega)]
                        refine go (i5 + 1) _ I7 (by omega) (by omega) (fQ1_t F3 (fQ1_t o2 (fQ1_t t6 (fQ1_t (fQ1_e f1) p1)))) p2 p3 p4 (fun j hj => ?_) ⟨by omega, by omega, by omega, by omega⟩ ?_
                        · rw [(p5 j).1, (p5 j).2, f1 _ _ (by omega), f1 _ _ (by omega), (t10 j (by omega)).1, (t10 j (by omega)).2, (o8 j (by omega)).1, (o8 j (by omega)).2]
                          exact S3 j hj
                        · rw [E4, t12, f3, p6, jcV_some, e_TextValuesModel_statement_22, jcV_some, e_TextValuesModel_readsProgram_66]
                      · rw [if_neg h125', pGo_f, n1]
                        obtain ⟨I6, f1, f2, f3⟩ := r_lp_bad (d + 5) L g (J := J) hN hc t4 t7 t8 t9 (by omega) (Or.inl (by omega)) (Or.inl (by rw [← n2]; exact h125')) t5
                        rw [t2] at f2
                        exact Or.inr ⟨i5, _, I6, rfl, fQ1_t F3 (fQ1_t o2 (fQ1_t t6 (fQ1_0 f1))), f2, m2, E4.trans (t12.trans f3)⟩
                    · rw [t1, pGo_f]
                      exact Or.inr ⟨p, q', I', rfl, fQ1_t F3 (fQ1_t o2 t2), t3, t4, E4.trans t5⟩
                  · rw [if_neg o1, pGo_f]
                    refine Or.inr ⟨_, _, I4, rfl, fQ1_t F3 o2, o3, (pSk_le (show i2 + 1 ≤ N by omega)).2, ?_⟩
                    rw [z14, y12, e3, o4, jcV_some, e_TextValuesModel_statement_22, jcV_some, e_TextValuesModel_readsProgram_66]
                · rw [if_neg h2p]
                  have hso : sortO x = 6 ∨ sortO x = 7 := by
                    have hx2 : x = 35 ∨ x = 42 := by omega
                    rcases hx2 with e | e <;> rw [e] <;> decide
                  obtain ⟨I7, p1, p2, p3, p4, p5, p6⟩ := r_closes_end (d + 3) L g (J := J) (s := q 117 35) (b := 0) (so := sortO x) hN hc w2 e2 hq3 k1 h125 h553 z4 (by omega) (by omega) h149 h150 (Or.inr ⟨rfl, K138.symm, hso⟩)
                  have x35 : qEnd q2 (q 117 35) (sortO x) 117 35 = q2 117 35 + 1 := by unfold qEnd qMate; rw [zu_a (by omega), zu_a (by omega), qCome_35]
                  have x44 : qEnd q2 (q 117 35) (sortO x) 117 44 = q2 117 44 := by unfold qEnd qMate; rw [zu_a (by omega), zu_a (by omega), qCome_r (by omega) (by omega)]
                  have x48 : qEnd q2 (q 117 35) (sortO x) 117 48 = q2 117 48 := by unfold qEnd qMate; rw [zu_a (by omega), zu_a (by omega), qCome_r (by omega) (by omega)]
                  have x42 : qEnd q2 (q 117 35) (sortO x) 117 42 = q2 117 42 := by unfold qEnd qMate; rw [zu_a (by omega), zu_a (by omega), qCome_r (by omega) (by omega)]
                  refine go (i2 + 1) _ I7 (by omega) (by omega) (fQ1_t F3 p1) p2 p3 p4 (fun j hj => ?_) ⟨by omega, by omega, by omega, by omega⟩ ?_
                  · rw [(p5 j).1, (p5 j).2]; exact S3 j hj
                  · rw [z14, y12, e3, p6, jcV_some, e_TextValuesModel_statement_22, jcV_some, e_TextValuesModel_readsProgram_66]
              · rw [if_neg h125, pGo_f, k1]
                obtain ⟨I3, e1, e2, e3⟩ := r_lp_bad (d + 5) L g (J := J) hN hc y4 y7 y8 y9 (by omega) (Or.inl (by omega)) (Or.inl (by rw [← k2]; exact h125)) y5
                rw [y2] at e2
                exact Or.inr ⟨i2, _, I3, rfl, fQ1_t z6 (fQ1_t y6 (fQ1_0 e1)), e2, w2, z14.trans (y12.trans e3)⟩
            · rw [y1, pGo_f]
              exact Or.inr ⟨p, q', I', rfl, fQ1_t z6 y2, y3, y4, z14.trans y5⟩
          · rcases z1 with ⟨q', z1⟩ | ⟨i', q', z1, zz, zp⟩
            · rw [z1, pGo_f]
              exact Or.inr ⟨p, q', I', rfl, z2, z3, z4, z5⟩
            · rw [z1, pGo_t, if_neg (by omega)]
              exact Or.inr ⟨_, q', I', rfl, z2, by rw [← zp]; exact z3, by rw [← zp]; exact z4, z5⟩
end MM

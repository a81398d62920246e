/-! THE REFERENCE: readsPattern, all of it -/
set_option maxRecDepth 100000
section MM
variable (d L : Nat) (g : jG) {J : Nat → Nat → Int64}
theorem rPS_f {S : pS} {I I' : Nat → Nat → Int32} (h : rPS S I) (hI : ∀ a j, ¬ (a = 117 ∧ (j = 53 ∨ j = 54)) → I' a j = I a j) : rPS S I' := ⟨fun k hk => r6_cg (h.1 k hk) (fun a b1 b2 => hI a k (by omega)), by rw [hI _ _ (by omega)]; exact h.2.1, fun p hp => by rw [hI _ _ (by omega)]; exact h.2.2.1 p hp, fun l hl => by rw [hI _ _ (by omega)]; exact h.2.2.2 l hl⟩
theorem rPS_6 {D : Nat} {q q' : Option pT} {X Y : Nat → pT} {z : Nat × (Nat → Nat) × (Nat → Nat)} {k : Nat} {x y : pT} {I I' : Nat → Nat → Int32} (h : rPS (D, q, X, Y, z) I) (he : e6 I I' k) (h6 : r6 I' k x y) (D' : Nat) (hD : D' ≤ D ∨ D' = D + 1 ∧ k = D + 1) : rPS (D', q', jup X k x, jup Y k y, z) I' := by
  refine ⟨fun j hj => ?_, by rw [he _ _ (by omega)]; exact h.2.1, fun p hp => by rw [he _ _ (by omega)]; exact h.2.2.1 p hp, fun l hl => by rw [he _ _ (by omega)]; exact h.2.2.2 l hl⟩
  have hj' : j ≤ D' := hj
  show r6 I' j (jup X k x j) (jup Y k y j)
  by_cases hjk : j = k
  · rw [hjk, jup_s, jup_s]; exact h6
  · rw [jup_n hjk, jup_n hjk]
    exact r6_cg (h.1 j (show j ≤ D by omega)) (fun a b1 b2 => he a j (by omega))
theorem r_rp_63 {c : Nat → Nat} {N : Nat} (hN : N ≤ 120) (hc : ∀ i, i < N → c i < 128) : ∀ m i (S : pS) (I : Nat → Nat → Int32), N - i = m → i ≤ N → S.2.1 = none → rPS S I → sR c N i I → I 117 54 = nI 0 → pB S → S.1 ≤ i → ∃ I', mPf I I' ∧ ((∃ S', rn c (N - i) i S = (some S', 0) ∧ pB S' ∧ pFin S' I' ∧ jval (d + 4) 249 63 [.ref 117, .int (nI S.1), jjunk] [] (jGs L g, I, J) = some (some (.int (nI 1)), (jGs L g, I', J))) ∨ ∃ p, rn c (N - i) i S = (none, p) ∧ p ≤ N ∧ I' 117 53 = nI p ∧ jval (d + 4) 249 63 [.ref 117, .int (nI S.1), jjunk] [] (jGs L g, I, J) = some (some (.int (nI 0)), (jGs L g, I', J))) := by
  intro m
  induction m using Nat.strongRecOn with
  | _ m ih =>
    intro i S I hm hi hp h hs h54 hB hSi
    obtain ⟨I1, q1, q2, q3⟩ := r_here (d + 3) L g (J := J) hN hc (N - i) i I (by omega) hs
    have hbd := skp_le c (N - i) i
    have hns := skp_ne c (N - i) i
    generalize hj : skp c (N - i) i = j at q2 q3 hbd hns
    have h1 : rPS S I1 := rPS_f h (fun a k hk => q1 a k (by omega))
    have f1 : mPf I I1 := fun a k hx => q1 a k (by unfold mPx at hx; omega)
    have h541 : I1 117 54 = nI 0 := by rw [q1 _ _ (by omega)]; exact h54
    -- the second look
    have hskj : skp c (N - j) j = j := by
      cases hNj : N - j with
      | zero => rfl
      | succ k =>
        show (if c j = 32 then _ else j) = j
        rw [if_neg (hns (by omega))]
    have here2 : ∀ I2, sR c N j I2 → ∃ I3, (∀ a k, ¬ (a = 117 ∧ k = 53) → I3 a k = I2 a k) ∧ sR c N j I3 ∧ jcall (d + 4) 197 [.ref 117] (jGs L g, I2, J) = some (some (.int (hV c N j)), (jGs L g, I3, J)) := by
      intro I2 hs2
      obtain ⟨I3, r1, r2, r3⟩ := r_here (d + 3) L g (J := J) hN hc (N - j) j I2 (by omega) hs2
      rw [hskj] at r2 r3
      exact ⟨I3, r1, r2, r3⟩
    have q3' : jcall (d + 4) 197 [.ref 117] (jGs L g, I, J) = some (some (.int (hV c N j)), (jGs L g, I1, J)) := q3
    -- a fault
    have fault : ∀ I2, mPf I I2 → rPS S I2 → I2 117 53 = nI j → I2 117 54 = nI 1 → ∃ I', mPf I I' ∧ I' 117 53 = nI j ∧ jval (d + 4) 249 226 [.ref 117, .int (nI S.1), jjunk] [] (jGs L g, I2, J) = some (some (.int (nI 0)), (jGs L g, I', J)) := by
      intro I2 z1 z2 z3 z4
      obtain ⟨I', a1, a2, a3, a4⟩ := r_rp_229 (d + 2) L g (J := J) (b := true) z2 z4
      refine ⟨I', mPf_t z1 a1, a3.trans z3, ?_⟩
      rw [e_TextValuesModel_readsPattern_226, e_TextValuesModel_readsPattern_63, z4, jif_f (by decide), a4]
      rfl
    have f208 : ∀ (I2 : Nat → Nat → Int32) (x : Int32), mPf I I2 → rPS S I2 → I2 117 53 = nI j → ∃ I', mPf I I' ∧ I' 117 53 = nI j ∧ jval (d + 4) 249 208 [.ref 117, .int (nI S.1), .int x] [.int (-1 : Int32)] (jGs L g, I2, J) = some (some (.int (nI 0)), (jGs L g, I', J)) := by
      intro I2 x z1 z2 z3
      obtain ⟨I', a1, a2, a3⟩ := fault (ju I2 117 54 (nI 1)) (fun a k hx => by rw [ju_ne (by unfold mPx at hx; omega)]; exact z1 a k hx) (rPS_f z2 (fun a k hk => ju_ne (by omega))) (by rw [zu_k (by omega)]; exact z3) (zu_at _ _ _ _)
      refine ⟨I', a1, a2, ?_⟩
      rw [e_TextValuesModel_readsPattern_208, jif_t rfl, jif_t (Or.inr rfl)]
      exact a3
    -- from 82 on
    have at82 : ∀ I2, mPf I I2 → rPS S I2 → sR c N j I2 → I2 117 54 = nI 0 → (j < N ∨ 0 < S.1) → ∃ I', mPf I I' ∧ ((∃ S', rn c (N - i) i S = (some S', 0) ∧ pB S' ∧ pFin S' I' ∧ jval (d + 4) 249 86 [.ref 117, .int (nI S.1), jjunk] [.int (hV c N j)] (jGs L g, I2, J) = some (some (.int (nI 1)), (jGs L g, I', J))) ∨ ∃ p, rn c (N - i) i S = (none, p) ∧ p ≤ N ∧ I' 117 53 = nI p ∧ jval (d + 4) 249 86 [.ref 117, .int (nI S.1), jjunk] [.int (hV c N j)] (jGs L g, I2, J) = some (some (.int (nI 0)), (jGs L g, I', J))) := by
      intro I2 z1 z2 z3 z4 z5
      by_cases hjN : j < N
      · have hcj := hc j hjN
        have hv : hV c N j = nI (c j) := by rw [hV, if_pos hjN]
        have ne : ∀ b, b < 128 → c j ≠ b → ¬ nI (c j) = nI b := fun b hb hne e => hne ((nI_eq (by omega) (by omega)).mp e)
        rw [hv, rn_step hj.symm hi hjN]
        have hstl := stl_none hp
        have mv : ∀ i', sR c N i' (ju I2 117 53 (nI i')) := fun i' => ⟨by rw [zu_k (by omega)]; exact z3.1, fun k hk => by rw [zu_a (by omega)]; exact z3.2.1 k hk, zu_at _ _ _ _⟩
        have mf : ∀ i', mPf I (ju I2 117 53 (nI i')) := fun i' a k hx => by rw [ju_ne (by unfold mPx at hx; omega)]; exact z1 a k hx
        have mr : ∀ i', rPS S (ju I2 117 53 (nI i')) := fun i' => rPS_f z2 (fun a k hk => ju_ne (by omega))
        have m54 : ∀ i', ju I2 117 53 (nI i') 117 54 = nI 0 := fun i' => by rw [zu_k (by omega)]; exact z4
        -- go on at a later place
        have go : ∀ i' S1 S2 I3, tk S (c j) = some S1 → rn c (N - (j + 1)) (j + 1) S1 = rn c (N - i') i' S2 → i < i' → i' ≤ N → S2.2.1 = none → mPf I I3 → rPS S2 I3 → sR c N i' I3 → I3 117 54 = nI 0 → pB S2 → S2.1 ≤ i' → ∃ I', mPf I I' ∧ ((∃ S', (match tk S (c j) with
            | none => (none, j)
            | some S' => rn c (N - (j + 1)) (j + 1) S') = (some S', 0) ∧ pB S' ∧ pFin S' I' ∧ jval (d + 4) 249 226 [.ref 117, .int (nI S2.1), jjunk] [] (jGs L g, I3, J) = some (some (.int (nI 1)), (jGs L g, I', J))) ∨ ∃ p, (match tk S (c j) with
            | none => (none, j)
            | some S' => rn c (N - (j + 1)) (j + 1) S') = (none, p) ∧ p ≤ N ∧ I' 117 53 = nI p ∧ jval (d + 4) 249 226 [.ref 117, .int (nI S2.1), jjunk] [] (jGs L g, I3, J) = some (some (.int (nI 0)), (jGs L g, I', J))) := by
          intro i' S1 S2 I3 t1 t2 t3 t4 t5 t6 t7 t8 t9 t10 t11
          obtain ⟨I', a1, a2⟩ := ih (N - i') (by omega) i' S2 I3 rfl t4 t5 t7 t8 t9 t10 t11
          refine ⟨I', mPf_t t6 a1, ?_⟩
          rw [t1, e_TextValuesModel_readsPattern_226]
          show (∃ S', rn c (N - (j + 1)) (j + 1) S1 = (some S', 0) ∧ _) ∨ ∃ p, rn c (N - (j + 1)) (j + 1) S1 = (none, p) ∧ _
          rw [t2]
          exact a2
        have no : tk S (c j) = none → ∀ x : Int32, ∃ I', mPf I I' ∧ ((∃ S', (match tk S (c j) with
            | none => (none, j)
            | some S' => rn c (N - (j + 1)) (j + 1) S') = (some S', 0) ∧ pB S' ∧ pFin S' I' ∧ jval (d + 4) 249 208 [.ref 117, .int (nI S.1), .int x] [.int (-1 : Int32)] (jGs L g, I2, J) = some (some (.int (nI 1)), (jGs L g, I', J))) ∨ ∃ p, (match tk S (c j) with
            | none => (none, j)
            | some S' => rn c (N - (j + 1)) (j + 1) S') = (none, p) ∧ p ≤ N ∧ I' 117 53 = nI p ∧ jval (d + 4) 249 208 [.ref 117, .int (nI S.1), .int x] [.int (-1 : Int32)] (jGs L g, I2, J) = some (some (.int (nI 0)), (jGs L g, I', J))) := by
          intro t1 x
          obtain ⟨I', a1, a2, a3⟩ := f208 I2 x z1 z2 z3.2.2
          rw [t1]
          exact ⟨I', a1, Or.inr ⟨j, rfl, by omega, a2, a3⟩⟩
        by_cases hr : c j = 42 ∨ c j = 63
        · have htk : tk S (c j) = none := by unfold tk; rw [if_pos hr, hp]; rfl
          have := no htk (nI (c j))
          rw [e_TextValuesModel_readsPattern_86, jif_f (show ¬ nI (c j) = (40 : Int32) from ne 40 (by omega) (by omega)), jif_f (show ¬ nI (c j) = (41 : Int32) from ne 41 (by omega) (by omega)), e_TextValuesModel_readsPattern_174, jif_f (show ¬ nI (c j) = (124 : Int32) from ne 124 (by omega) (by omega)), jif_f (show ¬ nI (c j) = (46 : Int32) from ne 46 (by omega) (by omega)), r_letterOf (d + 2) L g hcj, jcI_some, lO, if_neg (by omega)]
          exact this
        · have htk : tk S (c j) = act S (c j) := by unfold tk; rw [if_neg hr, hstl]
          by_cases h40 : c j = 40
          · obtain ⟨I3, b1, b2, b3⟩ := r_opensPattern (d + 2) L g (J := J) (k := S.1 + 1) (I := ju I2 117 53 (nI (j + 1))) (by omega)
            obtain ⟨D, q, X, Y, z⟩ := S
            have hact : tk (D, q, X, Y, z) (c j) = some (D + 1, none, jup X (D + 1) tNo, jup Y (D + 1) tEm, z) := by rw [htk, h40]; rfl
            have hSi' : D ≤ i := hSi
            have := go (j + 1) _ _ I3 hact rfl (by omega) (by omega) rfl (fun a k hx => by rw [b1 a k (by unfold mPx at hx; omega)]; exact mf _ a k hx) (rPS_6 (mr (j + 1)) b1 b2 (D + 1) (Or.inr ⟨rfl, rfl⟩)) (sR_cg (mv (j + 1)) (b1 _ _ (by omega)) (fun k => b1 _ _ (by omega)) (b1 _ _ (by omega))) (by rw [b1 _ _ (by omega)]; exact m54 _) (pB_tk hB hact) (show D + 1 ≤ j + 1 by omega)
            rw [e_TextValuesModel_readsPattern_86, jif_t (by rw [h40]; rfl), nI_1, z3.2.2, nI_1, b3, jcV_some, e_TextValuesModel_readsPattern_111]
            exact this
          · by_cases h41 : c j = 41
            · by_cases h0 : S.1 = 0
              · have hact : tk S (c j) = none := by rw [htk, h41]; show (if S.1 = 0 then none else _) = none; rw [if_pos h0]
                have := no hact (nI (c j))
                rw [e_TextValuesModel_readsPattern_86, jif_f (show ¬ nI (c j) = (40 : Int32) from ne 40 (by omega) (by omega)), jif_t (by rw [h41]; rfl), jif_t (by rw [h0]; decide), e_TextValuesModel_readsPattern_174, jif_f (show ¬ nI (c j) = (124 : Int32) from ne 124 (by omega) (by omega)), jif_f (show ¬ nI (c j) = (46 : Int32) from ne 46 (by omega) (by omega)), r_letterOf (d + 2) L g hcj, jcI_some, lO, if_neg (by omega)]
                exact this
              · obtain ⟨D, q, X, Y, n, bh, ol⟩ := S
                have hD0 : D ≠ 0 := h0
                have hSi' : D ≤ i := hSi
                have hact : tk (D, q, X, Y, n, bh, ol) (c j) = some (D - 1, some (orT (X D) (Y D)), X, Y, n, bh, ol) := by rw [htk, h41]; show (if D = 0 then none else _) = _; rw [if_neg hD0]
                obtain ⟨I3, b1, b2, b3⟩ := r_closesRow (d + 2) L g (J := J) (k := D) (I := ju I2 117 53 (nI (j + 1))) (by omega) ((mr (j + 1)).1 D (Nat.le_refl _))
                have hr3 : rPS (D - 1, some (orT (X D) (Y D)), X, Y, n, bh, ol) I3 := by
                  have hz := rPS_6 (q' := some (orT (X D) (Y D))) (mr (j + 1)) b1 b2 (D - 1) (Or.inl (by omega))
                  refine ⟨fun k hk => ?_, hz.2.1, hz.2.2.1, hz.2.2.2⟩
                  have hk' : k ≤ D - 1 := hk
                  have := hz.1 k hk
                  have e1 : jup X D (orT (X D) (Y D)) k = X k := jup_n (by omega)
                  have e2 : jup Y D tEm k = Y k := jup_n (by omega)
                  show r6 I3 k (X k) (Y k)
                  rw [← e1, ← e2]
                  exact this
                have hs3 := sR_cg (mv (j + 1)) (b1 _ _ (by omega)) (fun k => b1 _ _ (by omega)) (b1 _ _ (by omega))
                obtain ⟨I', S', i', a1, a2, a3, a4, a5, a6, a7, a8, a9, a10, a11⟩ := r_lays (d + 2) L g (J := J) hN hc (show j + 1 ≤ N by omega) rfl hr3 hs3 (pB_tk hB hact) (show D - 1 < 121 by omega)
                have ha3 : S'.1 = D - 1 := a3
                have := go i' _ S' I' hact a10 (by omega) a8 a2 (fun a k hx => by rw [a1 a k hx, b1 a k (by unfold mPx at hx; omega)]; exact mf _ a k hx) a5 a6 (by rw [a9, b1 _ _ (by omega)]; exact m54 _) a4 (by omega)
                rw [ha3] at this
                have em : nI D + Int32.ofInt (-1) = nI (D - 1) := by
                  rw [lst_m, show D = (D - 1) + 1 by omega, lst_s]; rfl
                have ep : nI (D - 1) + (1 : Int32) = nI D := by rw [nI_1, show D - 1 + 1 = D by omega]
                rw [e_TextValuesModel_readsPattern_86, jif_f (show ¬ nI (c j) = (40 : Int32) from ne 40 (by omega) (by omega)), jif_t (by rw [h41]; rfl), jif_f (show ¬ nI D ≤ (0 : Int32) from nI_nle (by omega) (by omega)), z3.2.2, nI_1, b3, jcV_some, e_TextValuesModel_readsPattern_139, em, ep, jin_nI (by omega) (by omega), nI_c (by omega), cond_true, cond_true, cond_true, b2.1, b2.2.1, b2.2.2.1, a11, jcV_some, e_TextValuesModel_readsPattern_171]
                exact this
            · by_cases h124 : c j = 124
              · obtain ⟨D, q, X, Y, z⟩ := S
                have hSi' : D ≤ i := hSi
                have hact : tk (D, q, X, Y, z) (c j) = some (D, none, jup X D (orT (X D) (Y D)), jup Y D tEm, z) := by rw [htk, h124]; rfl
                obtain ⟨I3, b1, b2, b3⟩ := r_closesRow (d + 2) L g (J := J) (k := D) (I := ju I2 117 53 (nI (j + 1))) (by omega) ((mr (j + 1)).1 D (Nat.le_refl _))
                have := go (j + 1) _ _ I3 hact rfl (by omega) (by omega) rfl (fun a k hx => by rw [b1 a k (by unfold mPx at hx; omega)]; exact mf _ a k hx) (rPS_6 (mr (j + 1)) b1 b2 D (Or.inl (Nat.le_refl _))) (sR_cg (mv (j + 1)) (b1 _ _ (by omega)) (fun k => b1 _ _ (by omega)) (b1 _ _ (by omega))) (by rw [b1 _ _ (by omega)]; exact m54 _) (pB_tk hB hact) (show D ≤ j + 1 by omega)
                rw [e_TextValuesModel_readsPattern_86, jif_f (show ¬ nI (c j) = (40 : Int32) from ne 40 (by omega) (by omega)), jif_f (show ¬ nI (c j) = (41 : Int32) from ne 41 (by omega) (by omega)), e_TextValuesModel_readsPattern_174, jif_t (by rw [h124]; rfl), z3.2.2, nI_1, b3, jcV_some, e_TextValuesModel_readsPattern_195]
                exact this
              · by_cases hL : isL (c j) = true
                · have hl : c j = 46 ∨ c j = 97 ∨ c j = 98 ∨ c j = 99 := of_decide_eq_true hL
                  have to212 : jval (d + 4) 249 86 [.ref 117, .int (nI S.1), jjunk] [.int (nI (c j))] (jGs L g, I2, J) = jval (d + 4) 249 212 [.ref 117, .int (nI S.1), .int (nI (c j))] [] (jGs L g, I2, J) := by
                    rw [e_TextValuesModel_readsPattern_86, jif_f (show ¬ nI (c j) = (40 : Int32) from ne 40 (by omega) (by omega)), jif_f (show ¬ nI (c j) = (41 : Int32) from ne 41 (by omega) (by omega)), e_TextValuesModel_readsPattern_174, jif_f (show ¬ nI (c j) = (124 : Int32) from ne 124 (by omega) (by omega))]
                    by_cases h46 : c j = 46
                    · rw [jif_t (by rw [h46]; rfl)]
                    · rw [jif_f (show ¬ nI (c j) = (46 : Int32) from ne 46 (by omega) h46), r_letterOf (d + 2) L g hcj, jcI_some, e_TextValuesModel_readsPattern_208, lO, if_pos (by omega), jif_f (show ¬ nI (c j - 97) = (-1 : Int32) by rw [show (-1 : Int32) = -nI 1 from rfl, zi_m1e (by omega)]; exact id)]
                  rw [to212, e_TextValuesModel_readsPattern_212]
                  by_cases h10 : S.2.2.2.2.1 = 10
                  · have hact : tk S (c j) = none := by rw [htk]; exact act_L10 hL h10
                    obtain ⟨I', a1, a2, a3⟩ := fault (ju I2 117 54 (nI 1)) (fun a k hx => by rw [ju_ne (by unfold mPx at hx; omega)]; exact z1 a k hx) (rPS_f z2 (fun a k hk => ju_ne (by omega))) (by rw [zu_k (by omega)]; exact z3.2.2) (zu_at _ _ _ _)
                    rw [r_letter10 (d + 3) L g (by rw [z2.2.1, h10]), jcV_some, e_TextValuesModel_readsPattern_218, hact]
                    exact ⟨I', a1, Or.inr ⟨j, rfl, by omega, a2, a3⟩⟩
                  · have hact : tk S (c j) = some _ := htk.trans (act_L hL h10)
                    obtain ⟨I', S', i', a1, a2, a3, a4, a5, a6, a7, a8, a9, a10, a11⟩ := r_letter (d + 1) L g (J := J) hN hc hjN hcj hL hp (act_L hL h10) z2 z3 hB (by omega) h10
                    have := go i' _ S' I' hact a10 (by omega) a8 a2 (mPf_t z1 a1) a5 a6 (by rw [a9]; exact z4) a4 (by omega)
                    rw [a3] at this
                    rw [a11, jcV_some, e_TextValuesModel_readsPattern_218]
                    exact this
                · have hl' : ¬ (c j = 46 ∨ c j = 97 ∨ c j = 98 ∨ c j = 99) := fun e => hL (decide_eq_true e)
                  have hact : tk S (c j) = none := by rw [htk]; unfold act; rw [if_neg h40, if_neg h41, if_neg h124, if_neg hL]
                  have := no hact (nI (c j))
                  rw [e_TextValuesModel_readsPattern_86, jif_f (show ¬ nI (c j) = (40 : Int32) from ne 40 (by omega) (by omega)), jif_f (show ¬ nI (c j) = (41 : Int32) from ne 41 (by omega) (by omega)), e_TextValuesModel_readsPattern_174, jif_f (show ¬ nI (c j) = (124 : Int32) from ne 124 (by omega) (by omega)), jif_f (show ¬ nI (c j) = (46 : Int32) from ne 46 (by omega) (by omega)), r_letterOf (d + 2) L g hcj, jcI_some, lO, if_neg (by omega)]
                  exact this
      · have hjN' : N = j := by omega
        have hv : hV c N j = -1 := by rw [hV, if_neg hjN]
        obtain ⟨I', a1, a2, a3⟩ := f208 I2 (-1) z1 z2 z3.2.2
        refine ⟨I', a1, Or.inr ⟨j, ?_, by omega, a2, ?_⟩⟩
        · rw [rn_end (by rw [hj]; exact hjN') hi, if_neg (by omega), hjN']
        · rw [hv, e_TextValuesModel_readsPattern_86, jif_f (by decide), jif_f (by decide), e_TextValuesModel_readsPattern_174, jif_f (by decide), jif_f (by decide), r_letterOf_m (d + 2) L g, jcI_some]
          exact a3
    by_cases hD : 0 < S.1
    · obtain ⟨I', a1, a2⟩ := at82 I1 f1 h1 q2 h541 (Or.inr hD)
      have e : jval (d + 4) 249 63 [.ref 117, .int (nI S.1), jjunk] [] (jGs L g, I, J) = jval (d + 4) 249 86 [.ref 117, .int (nI S.1), jjunk] [.int (hV c N j)] (jGs L g, I1, J) := by
        rw [e_TextValuesModel_readsPattern_63, h54, jif_t (by decide), jif_t (show (0 : Int32) < nI S.1 from nI_lt (a := 0) (b := S.1) hD (by omega)), e_TextValuesModel_readsPattern_82, q3', jcI_some]
      rw [e]
      exact ⟨I', a1, a2⟩
    · have h0 : S.1 = 0 := by omega
      have e : jval (d + 4) 249 63 [.ref 117, .int (nI S.1), jjunk] [] (jGs L g, I, J) = jval (d + 4) 249 78 [.ref 117, .int (nI S.1), jjunk] [.int (hV c N j)] (jGs L g, I1, J) := by
        rw [e_TextValuesModel_readsPattern_63, h54, jif_t (by decide), jif_f (by rw [h0]; decide), q3', jcI_some]
      rw [e]
      by_cases hjN : j < N
      · obtain ⟨I3, r1, r2, r3⟩ := here2 I1 q2
        obtain ⟨I', a1, a2⟩ := at82 I3 (mPf_t f1 (fun a k hx => r1 a k (by unfold mPx at hx; omega))) (rPS_f h1 (fun a k hk => r1 a k (by omega))) r2 (by rw [r1 _ _ (by omega)]; exact h541) (Or.inl hjN)
        have hne : ¬ hV c N j = (-1 : Int32) := by
          have := hc j hjN
          rw [hV, if_pos hjN, show (-1 : Int32) = -nI 1 from rfl, zi_m1e (by omega)]; exact id
        rw [e_TextValuesModel_readsPattern_78, jif_f hne, e_TextValuesModel_readsPattern_82, r3, jcI_some]
        exact ⟨I', a1, a2⟩
      · have hjN' : N = j := by omega
        obtain ⟨I', a1, a2, a3, a4⟩ := r_rp_229 (d + 2) L g (J := J) (b := false) h1 h541
        refine ⟨I', mPf_t f1 a1, Or.inl ⟨S, ?_, hB, a2, ?_⟩⟩
        · rw [rn_end (by rw [hj]; exact hjN') hi, if_pos h0, stl_none hp]
        · rw [e_TextValuesModel_readsPattern_78, hV, if_neg hjN, jif_t rfl, a4]
          rfl
end MM

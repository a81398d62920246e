/-! THE REFERENCE: readsPattern -/
set_option maxRecDepth 100000
section MM
variable (d L : Nat) (g : jG) {J : Nat → Nat → Int64}
theorem r_lay_fin {D : Nat} {f : pT} {X Y : Nat → pT} {n : Nat} {bh ol : Nat → Nat} {c : Nat → Nat} {N i : Nat} {q : Option pT} {I : Nat → Nat → Int32} (hD : D < 121) (h : rPS (D, q, X, Y, n, bh, ol) I) (hs : sR c N i I) : ∃ I', mPf I I' ∧ rPS (stl (D, some f, X, Y, n, bh, ol)) I' ∧ sR c N i I' ∧ I' 117 54 = I 117 54 ∧ jval (d + 1) 247 69 [.ref 117, .int (nI D), jjunk, .int (nI f.2.1), .int (nI f.2.2), jjunk, .int (bI f.1)] [] (jGs L g, I, J) = some (none, (jGs L g, I', J)) := by
  obtain ⟨h1, h2, h3, h4⟩ := h
  have h6 : r6 I D (X D) (Y D) := h1 D (Nat.le_refl _)
  obtain ⟨I', a1, a2, a3, a4⟩ := r_lay_69 d L g (J := J) (f := f) hD h6 (fun x hx => h3 x hx)
  refine ⟨I', fun a j hx => a1 a j (by unfold mPx at hx; omega) (by unfold mPx at hx; omega), ⟨fun k hk => ?_, ?_, a3, fun l hl => ?_⟩, sR_cg hs (a1 _ _ (by omega) (by omega)) (fun j => a1 _ _ (by omega) (by omega)) (a1 _ _ (by omega) (by omega)), a1 _ _ (by omega) (by omega), a4⟩
  · have hk' : k ≤ D := hk
    show r6 I' k (X k) (jup Y D (lay (Y D) f) k)
    by_cases hkD : k = D
    · rw [hkD, jup_s]; exact a2
    · rw [jup_n hkD]
      exact r6_cg (h1 k hk') (fun a b1 b2 => a1 a k (by omega) (by omega))
  · rw [a1 _ _ (by omega) (by omega)]; exact h2
  · rw [a1 _ _ (by omega) (by omega)]; exact h4 l hl
theorem r_lays {S : pS} {f : pT} {c : Nat → Nat} {N i : Nat} {I : Nat → Nat → Int32} (hN : N ≤ 120) (hc : ∀ i, i < N → c i < 128) (hi : i ≤ N) (hp : S.2.1 = some f) (h : rPS S I) (hs : sR c N i I) (hB : pB S) (hD : S.1 < 121) : ∃ I' S' i', mPf I I' ∧ S'.2.1 = none ∧ S'.1 = S.1 ∧ pB S' ∧ rPS S' I' ∧ sR c N i' I' ∧ i ≤ i' ∧ i' ≤ N ∧ I' 117 54 = I 117 54 ∧ rn c (N - i) i S = rn c (N - i') i' S' ∧ jcall (d + 2) 247 [.ref 117, .int (nI S.1), .int (bI f.1), .int (nI f.2.1), .int (nI f.2.2)] (jGs L g, I, J) = some (none, (jGs L g, I', J)) := by
  obtain ⟨D, p, X, Y, n, bh, ol⟩ := S
  have hp' : p = some f := hp
  subst hp'
  have hD' : D < 121 := hD
  obtain ⟨I1, q1, q2, q3⟩ := r_here d L g (J := J) hN hc (N - i) i I (by omega) hs
  have hb := skp_le c (N - i) i
  generalize hj : skp c (N - i) i = j at q2 q3 hb
  have q3' : jcall (d + 1) 197 [.ref 117] (jGs L g, I, J) = some (some (.int (hV c N j)), (jGs L g, I1, J)) := q3
  have h1 : rPS (D, some f, X, Y, n, bh, ol) I1 := ⟨fun k hk => r6_cg (h.1 k hk) (fun a b1 b2 => q1 a k (by omega)), by rw [q1 _ _ (by omega)]; exact h.2.1, fun p hp => by rw [q1 _ _ (by omega)]; exact h.2.2.1 p hp, fun l hl => by rw [q1 _ _ (by omega)]; exact h.2.2.2 l hl⟩
  have hf54 : I1 117 54 = I 117 54 := q1 _ _ (by omega)
  have hfr : mPf I I1 := fun a k hx => q1 a k (by unfold mPx at hx; omega)
  -- after readAt is moved
  have hmv : ∀ i', rPS (D, some f, X, Y, n, bh, ol) (ju I1 117 53 (nI i')) ∧ sR c N i' (ju I1 117 53 (nI i')) := fun i' => ⟨⟨fun k hk => r6_cg (h1.1 k hk) (fun a b1 b2 => by rw [zu_a (by omega)]), by rw [zu_k (by omega)]; exact h1.2.1, fun p hp => by rw [zu_a (by omega)]; exact h1.2.2.1 p hp, fun l hl => by rw [zu_a (by omega)]; exact h1.2.2.2 l hl⟩, by rw [zu_k (by omega)]; exact q2.1, fun k hk => by rw [zu_a (by omega)]; exact q2.2.1 k hk, zu_at _ _ _ _⟩
  have hfm : ∀ i', mPf I (ju I1 117 53 (nI i')) := fun i' a k hx => by
    rw [ju_ne (by unfold mPx at hx; omega)]; exact hfr a k hx
  have hf : tB 10 f := tB_10 (hB.2.2.1 f rfl) hB.1
  by_cases h42 : j < N ∧ c j = 42
  · obtain ⟨m1, m2⟩ := hmv (j + 1)
    obtain ⟨I2, b1, b2, b3⟩ := r_follows d L g (J := J) (la := f.2.2) (fi := f.2.1) (bh := bh) (I := ju I1 117 53 (nI (j + 1))) (fun x hx => m1.2.2.1 x hx)
    have n1 : rPS (D, some f, X, Y, n, flw bh f.2.2 f.2.1, ol) I2 := ⟨fun k hk => r6_cg (m1.1 k hk) (fun a c1 c2 => by rw [b1 a (by omega)]), by rw [b1 117 (by omega)]; exact m1.2.1, b2, fun l hl => by rw [b1 123 (by omega)]; exact m1.2.2.2 l hl⟩
    obtain ⟨I', e1, e2, e3, e4, e5⟩ := r_lay_fin d L g (J := J) (f := (true, f.2.1, f.2.2)) hD' n1 (sR_cg m2 (by rw [b1 117 (by omega)]) (fun k => by rw [b1 148 (by omega)]) (by rw [b1 117 (by omega)]))
    have htk : tk (D, some f, X, Y, n, bh, ol) (c j) = some (stl (D, some (true, f.2.1, f.2.2), X, Y, n, flw bh f.2.2 f.2.1, ol)) := by
      unfold tk
      rw [if_pos (Or.inl h42.2), h42.2]
      rfl
    refine ⟨I', stl (D, some (true, f.2.1, f.2.2), X, Y, n, flw bh f.2.2 f.2.1, ol), j + 1, fun a k hx => ?_, stl_p _, stl_d _, pB_tk hB htk, e2, e3, by omega, by omega, ?_, ?_, ?_⟩
    · rw [e1 a k hx, b1 a (by unfold mPx at hx; omega)]; exact hfm _ a k hx
    · rw [e4, b1 117 (by omega), zu_k (by omega)]; exact hf54
    · rw [rn_step hj.symm hi h42.1, htk]
    · have hv : hV c N j = nI 42 := by rw [hV, if_pos h42.1, h42.2]
      rw [c_TextValuesModel_lays, e_TextValuesModel_lays_0, q3', jcI_some, hv, e_TextValuesModel_lays_4, jif_t (show nI 42 = (42 : Int32) from rfl), e_TextValuesModel_lays_20, e_TextValuesModel_lays_25, jif_t (show nI 42 = (42 : Int32) from rfl), e_TextValuesModel_lays_46, e_TextValuesModel_lays_51, jif_t (show nI 42 = (42 : Int32) from rfl), q2.2.2, nI_1, b3, jcV_some]
      exact e5
  · by_cases h63 : j < N ∧ c j = 63
    · obtain ⟨m1, m2⟩ := hmv (j + 1)
      obtain ⟨I', e1, e2, e3, e4, e5⟩ := r_lay_fin d L g (J := J) (f := (true, f.2.1, f.2.2)) hD' m1 m2
      have htk : tk (D, some f, X, Y, n, bh, ol) (c j) = some (stl (D, some (true, f.2.1, f.2.2), X, Y, n, bh, ol)) := by
        unfold tk
        rw [if_pos (Or.inr h63.2), h63.2]
        rfl
      refine ⟨I', stl (D, some (true, f.2.1, f.2.2), X, Y, n, bh, ol), j + 1, fun a k hx => ?_, stl_p _, stl_d _, pB_tk hB htk, e2, e3, by omega, by omega, ?_, ?_, ?_⟩
      · rw [e1 a k hx]; exact hfm _ a k hx
      · rw [e4, zu_k (by omega)]; exact hf54
      · rw [rn_step hj.symm hi h63.1, htk]
      · have hv : hV c N j = nI 63 := by rw [hV, if_pos h63.1, h63.2]
        rw [c_TextValuesModel_lays, e_TextValuesModel_lays_0, q3', jcI_some, hv, e_TextValuesModel_lays_4, jif_f (show ¬ nI 63 = (42 : Int32) by decide), jif_t (show nI 63 = (63 : Int32) from rfl), e_TextValuesModel_lays_20, e_TextValuesModel_lays_25, jif_f (show ¬ nI 63 = (42 : Int32) by decide), jif_t (show nI 63 = (63 : Int32) from rfl), e_TextValuesModel_lays_46, e_TextValuesModel_lays_51, jif_f (show ¬ nI 63 = (42 : Int32) by decide), q2.2.2, nI_1]
        exact e5
    · obtain ⟨m1, m2⟩ := hmv j
      obtain ⟨I', e1, e2, e3, e4, e5⟩ := r_lay_fin d L g (J := J) (f := f) hD' m1 m2
      have v42 : ¬ hV c N j = (42 : Int32) := by
        unfold hV
        split
        · rename_i hlt
          have := hc j hlt
          exact fun e => h42 ⟨hlt, (nI_eq (b := 42) (by omega) (by omega)).mp e⟩
        · decide
      have v63 : ¬ hV c N j = (63 : Int32) := by
        unfold hV
        split
        · rename_i hlt
          have := hc j hlt
          exact fun e => h63 ⟨hlt, (nI_eq (b := 63) (by omega) (by omega)).mp e⟩
        · decide
      refine ⟨I', _, j, fun a k hx => ?_, stl_p _, stl_d _, pB_stl hB, e2, e3, by omega, by omega, ?_, ?_, ?_⟩
      · rw [e1 a k hx]; exact hfm _ a k hx
      · rw [e4, zu_k (by omega)]; exact hf54
      · rw [rn_stl c _ (N - i) i (fun hlt => by rw [hj] at hlt ⊢; exact ⟨fun e => h42 ⟨by omega, e⟩, fun e => h63 ⟨by omega, e⟩⟩), rn_skp, hj, show i + (N - i) - j = N - j by omega]
      · rw [c_TextValuesModel_lays, e_TextValuesModel_lays_0, q3', jcI_some, e_TextValuesModel_lays_4, jif_f v42, jif_f v63, e_TextValuesModel_lays_25, jif_f v42, jif_f v63, e_TextValuesModel_lays_51, jif_f v42, q2.2.2, show (0 : Int32) = nI 0 from rfl, nI_add, Nat.add_zero]
        exact e5
def lO (c : Nat) : Int32 := if 97 ≤ c ∧ c ≤ 99 then nI (c - 97) else -1
theorem r_letterOf {c : Nat} {I : Nat → Nat → Int32} (hc : c < 128) : jcall (d + 2) 199 [.int (nI c)] (jGs L g, I, J) = some (some (.int (lO c)), (jGs L g, I, J)) := by
  rw [c_TextValuesModel_letterOf, e_TextValuesModel_letterOf_0, c_TextValuesModel_in, e_TextValuesModel_in_0, lO]
  by_cases h1 : c < 97
  · rw [jif_t (show nI c < (97 : Int32) from nI_lt (a := c) (b := 97) h1 (by omega)), e_TextValuesModel_in_14, e_TextValuesModel_in_15, jif_t (Or.inl rfl), jcI_some, e_TextValuesModel_letterOf_8, jif_t rfl, e_TextValuesModel_letterOf_19, if_neg (by omega)]
  · rw [jif_f (show ¬ nI c < (97 : Int32) from nI_nlt (a := c) (b := 97) (by omega) (by omega))]
    by_cases h2 : 99 < c
    · rw [jif_t (show (99 : Int32) < nI c from nI_lt (a := 99) (b := c) h2 (by omega)), e_TextValuesModel_in_14, e_TextValuesModel_in_15, jif_t (Or.inl rfl), jcI_some, e_TextValuesModel_letterOf_8, jif_t rfl, e_TextValuesModel_letterOf_19, if_neg (by omega)]
    · rw [jif_f (show ¬ (99 : Int32) < nI c from nI_nlt (a := 99) (b := c) (by omega) (by omega)), e_TextValuesModel_in_15, jif_t (Or.inr rfl), jcI_some, e_TextValuesModel_letterOf_8, jif_f (by decide), e_TextValuesModel_letterOf_19, if_pos (by omega), show (97 : Int32) = nI 97 from rfl, zi_sub (by omega)]
theorem r_letterOf_m {I : Nat → Nat → Int32} : jcall (d + 2) 199 [.int (-1 : Int32)] (jGs L g, I, J) = some (some (.int (-1 : Int32)), (jGs L g, I, J)) := by
  rw [c_TextValuesModel_letterOf, e_TextValuesModel_letterOf_0, c_TextValuesModel_in, e_TextValuesModel_in_0, jif_t (show (-1 : Int32) < 97 by decide), e_TextValuesModel_in_14, e_TextValuesModel_in_15, jif_t (Or.inl rfl), jcI_some, e_TextValuesModel_letterOf_8, jif_t rfl, e_TextValuesModel_letterOf_19]
theorem r_adl {ol : Nat → Nat} {c n D : Nat} (hc : c < 128) (hn : n < 31) {I : Nat → Nat → Int32} {l : Nat} (hl : l < 3) (h : I 123 l = nI (ol l)) (h5 : I 117 85 = nI n) : jval (d + 2) 248 17 [.ref 117, .int (nI D), .int (nI c), .int (nI l)] [] (jGs L g, I, J) = jval (d + 2) 248 17 [.ref 117, .int (nI D), .int (nI c), .int (nI (l + 1))] [] (jGs L g, ju I 123 l (nI (adL ol c n l)), J) := by
  have hpw : (1 : Int32) <<< (nI n &&& 31) = nI (2 ^ n) := zi_pow hn
  have e3 : ¬ (3 : Int32) ≤ nI l := nI_ge (a := l) (b := 3) hl (by omega)
  unfold adL
  rw [e_TextValuesModel_letter_17, jif_f e3, jin_nI (by omega) (by omega), nI_c (by omega), cond_true, h]
  by_cases h46 : c = 46
  · rw [jif_t (by rw [h46]; rfl), e_TextValuesModel_letter_43, h5, hpw, e_TextValuesModel_letter_53, jin_nI (by omega) (by omega), nI_c (by omega), cond_true, nx_or, nI_1, if_pos (Or.inl h46)]
  · have n46 : ¬ nI c = (46 : Int32) := fun e => h46 ((nI_eq (b := 46) (by omega) (by omega)).mp e)
    rw [jif_f n46, r_letterOf d L g hc, jcI_some, e_TextValuesModel_letter_39]
    by_cases hcl : c = 97 + l
    · rw [jif_t (by rw [lO, if_pos (by omega), show c - 97 = l by omega]), e_TextValuesModel_letter_43, h5, hpw, e_TextValuesModel_letter_53, jin_nI (by omega) (by omega), nI_c (by omega), cond_true, nx_or, nI_1, if_pos (Or.inr hcl)]
    · have hne : ¬ lO c = nI l := by
        unfold lO
        split
        · exact fun e => hcl (by have := (nI_eq (by omega) (by omega)).mp e; omega)
        · rw [show (-1 : Int32) = -nI 1 from rfl, zi_m1e' (by omega)]; exact id
      rw [jif_f hne, e_TextValuesModel_letter_53, jin_nI (by omega) (by omega), nI_c (by omega), cond_true, show (0 : Int32) = nI 0 from rfl, nx_or, Nat.or_zero, nI_1, if_neg (by omega)]
theorem act_L {S : pS} {c : Nat} (hL : isL c = true) (hn : S.2.2.2.2.1 ≠ 10) : act S c = some (S.1, some (false, 2 ^ S.2.2.2.2.1, 2 ^ S.2.2.2.2.1), S.2.2.1, S.2.2.2.1, S.2.2.2.2.1 + 1, S.2.2.2.2.2.1, adL S.2.2.2.2.2.2 c S.2.2.2.2.1) := by
  have hl : c = 46 ∨ c = 97 ∨ c = 98 ∨ c = 99 := of_decide_eq_true hL
  unfold act
  rw [if_neg (by omega), if_neg (by omega), if_neg (by omega), if_pos hL, if_neg hn]
theorem act_L10 {S : pS} {c : Nat} (hL : isL c = true) (hn : S.2.2.2.2.1 = 10) : act S c = none := by
  have hl : c = 46 ∨ c = 97 ∨ c = 98 ∨ c = 99 := of_decide_eq_true hL
  unfold act
  rw [if_neg (by omega), if_neg (by omega), if_neg (by omega), if_pos hL, if_pos hn]
theorem r_letter {S S1 : pS} {c : Nat → Nat} {N i x : Nat} {I : Nat → Nat → Int32} (hN : N ≤ 120) (hc : ∀ i, i < N → c i < 128) (hi : i < N) (hx : x < 128) (hL : isL x = true) (hp : S.2.1 = none) (ha : act S x = some S1) (h : rPS S I) (hs : sR c N i I) (hB : pB S) (hD : S.1 < 121) (hn : S.2.2.2.2.1 ≠ 10) : ∃ I' S' i', mPf I I' ∧ S'.2.1 = none ∧ S'.1 = S.1 ∧ pB S' ∧ rPS S' I' ∧ sR c N i' I' ∧ i + 1 ≤ i' ∧ i' ≤ N ∧ I' 117 54 = I 117 54 ∧ rn c (N - (i + 1)) (i + 1) S1 = rn c (N - i') i' S' ∧ jcall (d + 3) 248 [.ref 117, .int (nI S.1), .int (nI x)] (jGs L g, I, J) = some (none, (jGs L g, I', J)) := by
  have hB1 := pB_act hB hp ha
  rw [act_L hL hn] at ha
  cases ha
  obtain ⟨D, p, X, Y, n, bh, ol⟩ := S
  have hn' : n ≠ 10 := hn
  have hn10 : n ≤ 10 := hB.1
  obtain ⟨h1, h2, h3, h4⟩ := h
  have h5 : I 117 85 = nI n := h2
  have hpw : (1 : Int32) <<< (nI n &&& 31) = nI (2 ^ n) := zi_pow (by omega)
  generalize hI3 : ju (ju (ju I 123 0 (nI (adL ol x n 0))) 123 1 (nI (adL ol x n 1))) 123 2 (nI (adL ol x n 2)) = I3
  have e1 := r_adl d L g (J := J) (D := D) hx (show n < 31 by omega) (l := 0) (by omega) (h4 0 (by omega)) h5
  have e2 := r_adl d L g (J := J) (D := D) (ol := ol) hx (show n < 31 by omega) (I := ju I 123 0 (nI (adL ol x n 0))) (l := 1) (by omega) (by rw [zu_k (by omega)]; exact h4 1 (by omega)) (by rw [zu_a (by omega)]; exact h5)
  have e3 := r_adl d L g (J := J) (D := D) (ol := ol) hx (show n < 31 by omega) (I := ju (ju I 123 0 (nI (adL ol x n 0))) 123 1 (nI (adL ol x n 1))) (l := 2) (by omega) (by rw [zu_k (by omega), zu_k (by omega)]; exact h4 2 (by omega)) (by rw [zu_a (by omega), zu_a (by omega)]; exact h5)
  rw [hI3] at e3
  have F : ∀ y, y ≠ 123 → I3 y = I y := fun y hy => by rw [← hI3, ju_n hy, ju_n hy, ju_n hy]
  have hl3 : ∀ l, l < 3 → I3 123 l = nI (adL ol x n l) := fun l hl => by
    rw [← hI3]
    rcases (show l = 0 ∨ l = 1 ∨ l = 2 by omega) with e | e | e
    · rw [e, zu_k (by omega), zu_k (by omega), zu_at]
    · rw [e, zu_k (by omega), zu_at]
    · rw [e, zu_at]
  have hs3 : I3 117 53 = nI i := by rw [F 117 (by omega)]; exact hs.2.2
  have h53 : I3 117 85 = nI n := by rw [F 117 (by omega)]; exact h5
  have hrP : rPS (D, some (false, 2 ^ n, 2 ^ n), X, Y, n + 1, bh, adL ol x n) (ju (ju I3 117 85 (nI (n + 1))) 117 53 (nI (i + 1))) := ⟨fun k hk => r6_cg (h1 k hk) (fun a b1 b2 => by rw [zu_a (by omega), zu_a (by omega), F a (by omega)]), by rw [zu_k (by omega), zu_at], fun p hp => by rw [zu_a (by omega), zu_a (by omega), F 122 (by omega)]; exact h3 p hp, fun l hl => by rw [zu_a (by omega), zu_a (by omega)]; exact hl3 l hl⟩
  have hsR : sR c N (i + 1) (ju (ju I3 117 85 (nI (n + 1))) 117 53 (nI (i + 1))) := ⟨by rw [zu_k (by omega), zu_k (by omega), F 117 (by omega)]; exact hs.1, fun j hj => by rw [zu_a (by omega), zu_a (by omega), F 148 (by omega)]; exact hs.2.1 j hj, zu_at _ _ _ _⟩
  obtain ⟨I', S', i', a1, a2, a3, a4, a5, a6, a7, a8, a9, a10, a11⟩ := r_lays d L g (J := J) hN hc (by omega) rfl hrP hsR hB1 hD
  refine ⟨I', S', i', fun a k hx => ?_, a2, a3, a4, a5, a6, a7, a8, ?_, a10, ?_⟩
  · rw [a1 a k hx, ju_ne (by unfold mPx at hx; omega), ju_ne (by unfold mPx at hx; omega), F a (by unfold mPx at hx; omega)]
  · rw [a9, zu_k (by omega), zu_k (by omega), F 117 (by omega)]
  · have a11' : jcall (d + 2) 247 [.ref 117, .int (nI D), .int (0 : Int32), .int (nI (2 ^ n)), .int (nI (2 ^ n))] (jGs L g, ju (ju I3 117 85 (nI (n + 1))) 117 53 (nI (i + 1)), J) = some (none, (jGs L g, I', J)) := a11
    rw [c_TextValuesModel_letter, e_TextValuesModel_letter_0, h5, jif_f (show ¬ nI n = (10 : Int32) from fun e => hn' ((nI_eq (b := 10) (by omega) (by omega)).mp e))]
    show jval (d + 2) 248 17 [.ref 117, .int (nI D), .int (nI x), .int (nI 0)] [] (jGs L g, I, J) = _
    rw [e1, e2, e3, e_TextValuesModel_letter_17, jif_t (show (3 : Int32) ≤ nI (2 + 1) by decide), h53, hs3, nI_1, nI_1, hpw, a11', jcV_some, e_TextValuesModel_letter_96]
theorem r_letter10 {D x : Nat} {I : Nat → Nat → Int32} (h : I 117 85 = nI 10) : jcall (d + 1) 248 [.ref 117, .int (nI D), .int (nI x)] (jGs L g, I, J) = some (none, (jGs L g, ju I 117 54 (nI 1), J)) := by
  rw [c_TextValuesModel_letter, e_TextValuesModel_letter_0, h, jif_t (by decide), jif_t (Or.inr rfl)]
  rfl
/-- what a pattern leaves for the making -/
def pFin (S : pS) (I : Nat → Nat → Int32) : Prop := I 117 13 = nI (orT (S.2.2.1 0) (S.2.2.2.1 0)).2.1 ∧ I 117 14 = nI (orT (S.2.2.1 0) (S.2.2.2.1 0)).2.2 ∧ I 117 15 = bI (orT (S.2.2.1 0) (S.2.2.2.1 0)).1 ∧ (∀ p, p < 10 → I 122 p = nI (S.2.2.2.2.2.1 p)) ∧ ∀ l, l < 3 → I 123 l = nI (S.2.2.2.2.2.2 l)
theorem r_rp_229 {S : pS} {b : Bool} {I : Nat → Nat → Int32} (h : rPS S I) (hb : I 117 54 = bI b) : ∃ I', mPf I I' ∧ pFin S I' ∧ I' 117 53 = I 117 53 ∧ jval (d + 2) 249 229 [.ref 117, jjunk, jjunk] [] (jGs L g, I, J) = some (some (.int (bI (!b))), (jGs L g, I', J)) := by
  obtain ⟨D, p, X, Y, n, bh, ol⟩ := S
  obtain ⟨h1, h2, h3, h4⟩ := h
  obtain ⟨I1, a1, a2, a3⟩ := r_closesRow d L g (J := J) (k := 0) (by omega) (show r6 I 0 (X 0) (Y 0) from h1 0 (Nat.zero_le _))
  obtain ⟨g1, g2, g3, -, -, -⟩ := a2
  have hb1 : I1 117 54 = bI b := by rw [a1 _ _ (by omega)]; exact hb
  have hz : ∀ (e : Bool), jif (bI e = (1 : Int32)) (jval (d + 2) 249 270 [.ref 117, jjunk, jjunk] [.int (1 : Int32), .ref 117] (jGs L g, ju (ju I1 117 13 (nI (orT (X 0) (Y 0)).2.1)) 117 14 (nI (orT (X 0) (Y 0)).2.2), J)) (jval (d + 2) 249 270 [.ref 117, jjunk, jjunk] [.int (nI 0), .ref 117] (jGs L g, ju (ju I1 117 13 (nI (orT (X 0) (Y 0)).2.1)) 117 14 (nI (orT (X 0) (Y 0)).2.2), J)) = jval (d + 2) 249 270 [.ref 117, jjunk, jjunk] [.int (bI e), .ref 117] (jGs L g, ju (ju I1 117 13 (nI (orT (X 0) (Y 0)).2.1)) 117 14 (nI (orT (X 0) (Y 0)).2.2), J) := by
    intro e
    cases e
    · rw [jif_f (by decide)]; rfl
    · rw [jif_t (by decide)]; rfl
  refine ⟨ju (ju (ju I1 117 13 (nI (orT (X 0) (Y 0)).2.1)) 117 14 (nI (orT (X 0) (Y 0)).2.2)) 117 15 (bI (orT (X 0) (Y 0)).1), fun a j hx => ?_, ⟨?_, ?_, ?_, fun p hp => ?_, fun l hl => ?_⟩, ?_, ?_⟩
  · unfold mPx at hx
    rw [ju_ne (by omega), ju_ne (by omega), ju_ne (by omega), a1 a j (by omega)]
  · rw [zu_k (by omega), zu_k (by omega), zu_at]
  · rw [zu_k (by omega), zu_at]
  · rw [zu_at]
  · rw [zu_a (by omega), zu_a (by omega), zu_a (by omega), a1 _ _ (by omega)]; exact h3 p hp
  · rw [zu_a (by omega), zu_a (by omega), zu_a (by omega), a1 _ _ (by omega)]; exact h4 l hl
  · rw [zu_k (by omega), zu_k (by omega), zu_k (by omega), a1 _ _ (by omega)]
  · rw [e_TextValuesModel_readsPattern_229, show (0 : Int32) = nI 0 from rfl, a3, jcV_some, e_TextValuesModel_readsPattern_234, show (0 : Int32) = nI 0 from rfl, jin_nI (by omega) (by omega), nI_c (by omega), cond_true, cond_true, cond_true, g1, g2, g3, hz, e_TextValuesModel_readsPattern_270, bI_01]
    rw [zu_k (by omega), zu_k (by omega), hb1]
    cases b
    · rw [jif_t (by decide), e_TextValuesModel_readsPattern_285, jif_t (Or.inr rfl)]
      rfl
    · rw [jif_f (by decide), e_TextValuesModel_readsPattern_285, jif_t (Or.inl rfl)]
      rfl
end MM

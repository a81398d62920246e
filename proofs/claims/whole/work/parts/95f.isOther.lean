/-! ANALYSIS, THE REFERENCE: a round's end -/
set_option maxRecDepth 100000
theorem nmax (a b : Nat) : jif (nI b ≤ nI a) (nI a) (nI b) = nI (max a b) ∨ ¬ (a < 2147483648 ∧ b < 2147483648) := by
  by_cases h : a < 2147483648 ∧ b < 2147483648
  · left
    by_cases hab : b ≤ a
    · rw [jif_t (nI_le hab h.1), Nat.max_eq_left hab]
    · rw [jif_f (nI_ge (by omega) h.2), Nat.max_eq_right (by omega)]
  · exact Or.inr h
section MM
variable (d L : Nat) (g : jG) {J : Nat → Nat → Int64}
/-- the end of isOther: the counters -/
theorem r_io_135 {q : Nat → Nat → Nat} {k r o m : Nat} {x : Bool} {G : yG} {I : Nat → Nat → Int32} (hk : k < 5) (h55 : I 117 55 = nI k) (h152 : I 152 k = nI r) (hr : r < 25) (hG : rG q G (o + r) (max m r) I) : ∃ I', (∀ a j, ¬ (a = 152 ∧ j = k) → ¬ (a = 117 ∧ (j = 63 ∨ j = 64)) → I' a j = I a j) ∧ I' 152 k = nI (r + 1) ∧ rG q G (o + (r + 1)) (max m (r + 1)) I' ∧ jval d 222 135 [.ref 117, jjunk, .int (bI x), jjunk, jjunk] [] (jGs L g, I, J) = some (some (.int (bI x)), (jGs L g, I', J)) := by
  obtain ⟨g1, g2, g3, g4, g5⟩ := hG
  have hm := nmax (max G.2.1 (max m r)) (r + 1)
  have hm' : jif (nI (r + 1) ≤ nI (max G.2.1 (max m r))) (nI (max G.2.1 (max m r))) (nI (r + 1)) = nI (max (max G.2.1 (max m r)) (r + 1)) := by
    rcases hm with e | e
    · exact e
    · exact absurd ⟨by omega, by omega⟩ e
  have hmx : max (max G.2.1 (max m r)) (r + 1) = max G.2.1 (max m (r + 1)) := by omega
  refine ⟨ju (ju (ju I 152 k (nI (r + 1))) 117 63 (nI (G.1 + (o + (r + 1))))) 117 64 (nI (max G.2.1 (max m (r + 1)))), fun a j y1 y2 => by rw [ju_ne (by omega), ju_ne (by omega), ju_ne (by omega)], ?_, ⟨?_, ?_, g3, by omega, fun j hj => rRa_cg (g5 j hj) (by rw [zu_a (by omega), zu_a (by omega), zu_a (by omega)]) (fun x _ => by rw [zu_a (by omega), zu_a (by omega), zu_a (by omega)])⟩, ?_⟩
  · rw [zu_a (by omega), zu_a (by omega), zu_at]
  · rw [zu_k (by omega), zu_at]
  · rw [zu_at]
  · have e152 : ju I 152 k (nI (r + 1)) 152 k = nI (r + 1) := zu_at _ _ _ _
    rw [e_TextValuesModel_isOther_135, h55, jin_nI (by omega) (by omega), nI_c (by omega), cond_true, cond_true, cond_true, cond_true, h152, nI_1, e152, g1, g2, nI_1]
    rw [show G.1 + (o + r) + 1 = G.1 + (o + (r + 1)) by omega, ← hmx, ← hm']
    by_cases hc : nI (r + 1) ≤ nI (max G.2.1 (max m r))
    · rw [jif_t hc, jif_t hc, e_TextValuesModel_isOther_191, bI_01]
    · rw [jif_f hc, jif_f hc, e_TextValuesModel_isOther_191, bI_01]
theorem r_isOther {q : Nat → Nat → Nat} {P : Nat → kA} {D W k r o m : Nat} {H : yV} {s : Option yV} {G : yG} {I : Nat → Nat → Int32} (hB : rB q P D W I) (hk : k < 5) (h55 : I 117 55 = nI k) (h152 : I 152 k = nI r) (hr : r < 25) (hG : rG q G (o + r) (max m r) I) (hH : rSt I (8 + 8 * k) (some H)) (hs : rSt I 4 s) : ∃ I', fY k I I' ∧ (∀ y, y < 10240 → I' 125 y = 0) ∧ I' 117 55 = nI k ∧ I' 152 k = nI (r + 1) ∧ rG q G (o + (r + 1)) (max m (r + 1)) I' ∧ (match s with
    | none => rSt I' (8 + 8 * k) (some H) ∧ jcall (d + 10) 222 [.ref 117, .int (nI (8 + 8 * k))] (jGs L g, I, J) = some (some (.int (bI false)), (jGs L g, I', J))
    | some V => rSt I' (8 + 8 * k) (some (fun v => if v < 4 then yG1 D W r H V v else H v)) ∧ jcall (d + 10) 222 [.ref 117, .int (nI (8 + 8 * k))] (jGs L g, I, J) = some (some (.int (bI (yOt H V 4))), (jGs L g, I', J))) := by
  rw [c_TextValuesModel_isOther, e_TextValuesModel_isOther_0, show (0 : Int32) = nI 0 from rfl]
  rcases hs with ⟨e1, e2⟩ | ⟨V, e1, e2, e3⟩
  · subst e1
    obtain ⟨I', a1, a2, a3, a4⟩ := r_io_135 (d + 9) L g (J := J) (x := false) hk h55 h152 hr hG
    have no : ∀ a j, ¬ yX a j → ¬ (a = 152 ∧ j = k) ∧ ¬ (a = 117 ∧ (j = 63 ∨ j = 64)) := fun a j hx => by unfold yX at hx; omega
    refine ⟨I', ⟨fun a j hx => a1 a j (no a j hx).1 (no a j hx).2, fun j _ => a1 _ _ (by omega) (by omega), fun j _ _ => a1 _ _ (by omega) (by omega), fun j hj => a1 _ _ (by omega) (by omega)⟩, fun y hy => by rw [a1 _ _ (by omega) (by omega)]; exact hB.2.2.1 y hy, (a1 _ _ (by omega) (by omega)).trans h55, a2, a3, rSt_cg hH (a1 _ _ (by omega) (by omega)) (fun v hv c hc => a1 _ _ (by omega) (by omega)), ?_⟩
    rw [e_TextValuesModel_isOther_4, show (4 : Int32) = nI 4 from rfl, jif_f (nI_ge (by omega) (by omega)), jin_nI (by omega) (by omega), cond_true, nI_c (by omega), jif_f (by rw [e2]; decide)]
    exact a4
  · subst e1
    have n0 : ∀ a j, a = 151 ∨ a = 152 ∨ (a = 117 ∧ (j = 55 ∨ j = 58 ∨ j = 59)) → ¬ mSc2 a j := fun a j ha hx => by unfold mSc2 mScr at hx; omega
    have Hs : ∀ v, v < 4 → mR I (8 + 8 * k + v) (H v) ∧ kV (H v) := by
      rcases hH with ⟨f1, _⟩ | ⟨H', f1, _, f3⟩
      · cases f1
      · cases f1; exact f3
    have Ho : I 151 (8 + 8 * k) = nI 0 := by
      rcases hH with ⟨f1, _⟩ | ⟨H', f1, f2, _⟩
      · cases f1
      · exact f2
    -- one variable after the other
    have loop : ∀ n v I1, v + n = 4 → fY k I I1 → (∀ y, y < 10240 → I1 125 y = 0) → eG I I1 → I1 152 k = nI r → I1 151 4 = nI 0 → I1 151 (8 + 8 * k) = nI 0 → (∀ w, w < 4 → mR I1 (4 + w) (V w)) → (∀ w, w < 4 → mR I1 (8 + 8 * k + w) (if w < v then yG1 D W r H V w else H w) ∧ kV (if w < v then yG1 D W r H V w else H w)) → ∃ I', fY k I I' ∧ (∀ y, y < 10240 → I' 125 y = 0) ∧ I' 117 55 = nI k ∧ I' 152 k = nI (r + 1) ∧ rG q G (o + (r + 1)) (max m (r + 1)) I' ∧ rSt I' (8 + 8 * k) (some (fun v => if v < 4 then yG1 D W r H V v else H v)) ∧ jval (d + 9) 222 4 [.ref 117, .int (nI (8 + 8 * k)), .int (bI (yOt H V v)), .int (nI v), jjunk] [] (jGs L g, I1, J) = some (some (.int (bI (yOt H V 4))), (jGs L g, I', J)) := by
      intro n
      induction n with
      | zero =>
        intro v I1 hn y1 y2 y3 y4 y5 y6 y7 y8
        have hv : v = 4 := by omega
        subst hv
        obtain ⟨I', a1, a2, a3, a4⟩ := r_io_135 (d + 9) L g (J := J) (x := yOt H V 4) (I := I1) hk ((y3.1 55 (by omega)).trans h55) y4 hr (rG_e hG y3)
        have no : ∀ a j, ¬ yX a j → ¬ (a = 152 ∧ j = k) ∧ ¬ (a = 117 ∧ (j = 63 ∨ j = 64)) := fun a j hx => by unfold yX at hx; omega
        refine ⟨I', fY_t y1 ⟨fun a j hx => a1 a j (no a j hx).1 (no a j hx).2, fun j _ => a1 _ _ (by omega) (by omega), fun j _ _ => a1 _ _ (by omega) (by omega), fun j hj => a1 _ _ (by omega) (by omega)⟩, fun y hy => by rw [a1 _ _ (by omega) (by omega)]; exact y2 y hy, (a1 _ _ (by omega) (by omega)).trans ((y3.1 55 (by omega)).trans h55), a2, a3, Or.inr ⟨_, rfl, (a1 _ _ (by omega) (by omega)).trans y6, fun w hw => ⟨?_, ?_⟩⟩, ?_⟩
        · exact mR_cg (y8 w hw).1 (fun c hc => a1 _ _ (by omega) (by omega))
        · exact (y8 w hw).2
        · rw [e_TextValuesModel_isOther_4, show (4 : Int32) = nI 4 from rfl, jif_t (nI_le (by omega) (by omega))]
          exact a4
      | succ n ih =>
        intro v I1 hn y1 y2 y3 y4 y5 y6 y7 y8
        have hv4 : v < 4 := by omega
        have hHv := y8 v hv4
        rw [if_neg (by omega)] at hHv
        have B1 := rB_f hB y1 y2
        obtain ⟨I2, b1, b2, b3⟩ := r_pairs d L g (J := J) (m := 0) (a := 8 + 8 * k + v) (b := 4 + v) (into := 52) (by omega) hHv.1 (y7 v hv4) (by omega) (by omega) (by omega) y2
        have vJ : kV (yJ1 H V v) := vPair_V hHv.2
        have b2' : mR I2 52 (yJ1 H V v) := b2
        have hH2 : mR I2 (8 + 8 * k + v) (H v) := mR_cg hHv.1 (fun c hc => b1.2.1 _ (by omega) (by omega))
        have same := r_areSame (d + 7) L g (J := J) b2' hH2 vJ hHv.2
        have i55 : I2 117 55 = nI k := (b1.1 _ _ (n0 _ _ (by omega)) (by omega)).trans ((y3.1 55 (by omega)).trans h55)
        have i152 : I2 152 k = nI r := (b1.1 _ _ (n0 _ _ (by omega)) (by omega)).trans y4
        have i58 : I2 117 58 = nI D := (b1.1 _ _ (n0 _ _ (by omega)) (by omega)).trans B1.2.2.2.1
        have i59 : I2 117 59 = nI W := (b1.1 _ _ (n0 _ _ (by omega)) (by omega)).trans B1.2.2.2.2.1
        have hD5 := B1.2.2.2.2.2.1
        have hW2 := B1.2.2.2.2.2.2.1
        -- the work slot holds what comes; it is copied
        have fin : ∀ I3 (its : Bool), mOp I2 I3 52 ∨ I3 = I2 → mR I3 52 (yG1 D W r H V v) → kV (yG1 D W r H V v) → its = jb (¬ yJ1 H V v = H v) → ∃ I', fY k I I' ∧ (∀ y, y < 10240 → I' 125 y = 0) ∧ I' 117 55 = nI k ∧ I' 152 k = nI (r + 1) ∧ rG q G (o + (r + 1)) (max m (r + 1)) I' ∧ rSt I' (8 + 8 * k) (some (fun v => if v < 4 then yG1 D W r H V v else H v)) ∧ jval (d + 9) 222 105 [.ref 117, .int (nI (8 + 8 * k)), .int (bI (yOt H V v)), .int (nI v), .int (bI its)] [] (jGs L g, I3, J) = some (some (.int (bI (yOt H V 4))), (jGs L g, I', J)) := by
          intro I3 its h23 hm3 hv3 hits
          have c23 : (∀ a j, ¬ mSc2 a j → a ≠ 119 → I3 a j = I2 a j) ∧ (∀ j, j < 1760 → ¬ (32 * 52 ≤ j ∧ j < 32 * 52 + 32) → I3 119 j = I2 119 j) ∧ ∀ y, y < 10240 → I3 125 y = 0 := by
            rcases h23 with e | e
            · exact e
            · rw [e]; exact ⟨fun _ _ _ _ => rfl, fun _ _ _ => rfl, b1.2.2⟩
          have ho3 : mOp I2 I3 52 := c23
          have ho4 : mOp I3 (mCp I3 52 (8 + 8 * k + v) 32) (8 + 8 * k + v) := mOp_cp c23.2.2
          have F2 := fY_op b1 (Or.inr (by omega))
          have F3 := fY_op ho3 (Or.inr (by omega))
          have F4 : fY k I3 (mCp I3 52 (8 + 8 * k + v) 32) := ⟨fun a j hx => by rw [mCp_n (by unfold yX at hx; omega)], fun j hj => mCp_out (by omega), fun j _ _ => by rw [mCp_n (by omega)], fun j _ => by rw [mCp_n (by omega)]⟩
          have n2 : ∀ a j, a = 151 ∨ a = 152 → mCp I3 52 (8 + 8 * k + v) 32 a j = I1 a j := fun a j ha => by
            rw [mCp_n (by omega), c23.1 a j (n0 a j (by omega)) (by omega), b1.1 a j (n0 a j (by omega)) (by omega)]
          have s2 : ∀ j, j < 1760 → ¬ (32 * 52 ≤ j ∧ j < 32 * 52 + 32) → ¬ (32 * (8 + 8 * k + v) ≤ j ∧ j < 32 * (8 + 8 * k + v) + 32) → mCp I3 52 (8 + 8 * k + v) 32 119 j = I1 119 j := fun j h1 h2 h3 => by
            rw [mCp_out h3, c23.2.1 j h1 h2, b1.2.1 j h1 h2]
          have hot : (yOt H V v || its) = yOt H V (v + 1) := by rw [hits]; rfl
          obtain ⟨I', z1, z2, z3, z4, z5, z6, z7⟩ := ih (v + 1) (mCp I3 52 (8 + 8 * k + v) 32) (by omega) (fY_t y1 (fY_t (fY_w F2 (by omega)) (fY_t (fY_w F3 (by omega)) F4))) ho4.2.2 (eG_t y3 (eG_t (eG_op b1) (eG_t (eG_op ho3) (eG_op ho4)))) ((n2 _ _ (by omega)).trans y4) ((n2 _ _ (by omega)).trans y5) ((n2 _ _ (by omega)).trans y6) (fun w hw => mR_cg (y7 w hw) (fun c hc => s2 _ (by omega) (by omega) (by omega))) (fun w hw => by
            by_cases hwv : w = v
            · rw [hwv, if_pos (by omega)]
              exact ⟨mR_cp hm3 (by omega), hv3⟩
            · have hy := y8 w hw
              have e : (if w < v + 1 then yG1 D W r H V w else H w) = (if w < v then yG1 D W r H V w else H w) := by
                by_cases hlt : w < v
                · rw [if_pos hlt, if_pos (by omega)]
                · rw [if_neg hlt, if_neg (by omega)]
              rw [e]
              exact ⟨mR_cg hy.1 (fun c hc => s2 _ (by omega) (by omega) (by omega)), hy.2⟩)
          refine ⟨I', z1, z2, z3, z4, z5, z6, ?_⟩
          rw [e_TextValuesModel_isOther_105, show (52 : Int32) = nI 52 from rfl, nI_add, s_copies (d + 8) L g I3 J (by omega) (by omega), jcV_some, e_TextValuesModel_isOther_114, e_TextValuesModel_isOther_123, e_TextValuesModel_isOther_128, e_TextValuesModel_isOther_128, nI_1, show (0 : Int32) = bI false from rfl, show (1 : Int32) = bI true from rfl]
          rw [← hot] at z7
          cases h1 : yOt H V v with
          | true =>
            rw [jif_f (by decide)]
            rw [h1] at z7
            exact z7
          | false =>
            rw [jif_t rfl]
            rw [h1] at z7
            cases its with
            | true => rw [jif_f (by decide)]; exact z7
            | false => rw [jif_t rfl]; exact z7
        have head : jval (d + 9) 222 4 [.ref 117, .int (nI (8 + 8 * k)), .int (bI (yOt H V v)), .int (nI v), jjunk] [] (jGs L g, I1, J) = jval (d + 9) 222 48 [.ref 117, .int (nI (8 + 8 * k)), .int (bI (yOt H V v)), .int (nI v), jjunk] [.int (bI (jb (¬ yJ1 H V v = H v)))] (jGs L g, I2, J) := by
          rw [e_TextValuesModel_isOther_4, show (4 : Int32) = nI 4 from rfl, jif_f (nI_ge (by omega) (by omega)), jin_nI (by omega) (by omega), cond_true, nI_c (by omega), jif_t (show I1 151 4 = (0 : Int32) from y5), nI_add, nI_add, show (0 : Int32) = nI 0 from rfl, show (52 : Int32) = nI 52 from rfl, b3, jcV_some, e_TextValuesModel_isOther_31, show (52 : Int32) = nI 52 from rfl, nI_add, same, jcI_some, e_TextValuesModel_isOther_40]
          by_cases hs : yJ1 H V v = H v
          · rw [jb_t.mpr hs, jif_f (by decide), jb_f.mpr (fun h => h hs)]; rfl
          · rw [jb_f.mpr hs, jif_t (by decide), jb_t.mpr hs]; rfl
        rw [head, e_TextValuesModel_isOther_48]
        by_cases hs : yJ1 H V v = H v
        · have hg1 : yG1 D W r H V v = yJ1 H V v := by unfold yG1; rw [jif_t hs, hs]
          rw [jb_f.mpr (fun h => h hs), jif_t (by decide), e_TextValuesModel_isOther_78, jif_t (by decide)]
          exact fin I2 false (Or.inr rfl) (by rw [hg1]; exact b2') (by rw [hg1]; exact vJ) (jb_f.mpr (fun h => h hs)).symm
        · have hi : jb (¬ yJ1 H V v = H v) = true := jb_t.mpr hs
          rw [hi, jif_f (by decide), i55, jin_nI (by omega) (by omega), cond_true, nI_c (by omega), i152, show (20 : Int32) = nI 20 from rfl]
          by_cases h20 : 20 ≤ r
          · have hg1 : yG1 D W r H V v = kAll := by unfold yG1; rw [jif_f hs, if_pos h20]
            have oAll : mOp I2 (mAll I2 52) 52 := ⟨fun x j _ hx => by unfold mAll; rw [jup_n hx], fun j _ hj => by unfold mAll; rw [jup_s]; exact if_neg hj, fun y hy => by unfold mAll; rw [jup_n (by omega)]; exact b1.2.2 y hy⟩
            rw [jif_f (nI_nlt h20 (by omega)), show (52 : Int32) = nI 52 from rfl, s_laysAll (d + 8) L g I2 J (by omega), jcV_some, e_TextValuesModel_isOther_75]
            exact fin (mAll I2 52) true (Or.inl oAll) (by rw [hg1]; exact mR_all (by omega)) (by rw [hg1]; exact kAll_V) hi.symm
          · rw [jif_t (nI_lt (by omega) (by omega)), e_TextValuesModel_isOther_78, jif_f (by decide), i55, jin_nI (by omega) (by omega), cond_true, nI_c (by omega), i152, i58]
            by_cases hDr : D ≤ r
            · have hg1 : yG1 D W r H V v = vWid (yJ1 H V v) W := by unfold yG1; rw [jif_f hs, if_neg h20, if_pos hDr]
              obtain ⟨I3, c1, c2, c3⟩ := r_widens d L g (J := J) (k := 52) (w := W) b2' (by omega) i59 hW2 b1.2.2
              rw [jif_f (nI_nlt hDr (by omega)), show (52 : Int32) = nI 52 from rfl, c3, jcV_some]
              exact fin I3 true (Or.inl c1) (by rw [hg1]; exact c2) (by rw [hg1]; exact vWid_V _ _) hi.symm
            · have hg1 : yG1 D W r H V v = yJ1 H V v := by unfold yG1; rw [jif_f hs, if_neg h20, if_neg hDr]
              rw [jif_t (nI_lt (by omega) (by omega))]
              exact fin I2 true (Or.inr rfl) (by rw [hg1]; exact b2') (by rw [hg1]; exact vJ) hi.symm
    obtain ⟨I', z1, z2, z3, z4, z5, z6, z7⟩ := loop 4 0 I (by omega) (fY_r k I) hB.2.2.1 (eG_r I) h152 e2 Ho (fun w hw => (e3 w hw).1) (fun w hw => by rw [if_neg (by omega)]; exact Hs w hw)
    exact ⟨I', z1, z2, z3, z4, z5, z6, z7⟩
end MM

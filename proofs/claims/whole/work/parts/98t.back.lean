/-! TOP: back -/
set_option maxRecDepth 100000
section RB
variable (d L : Nat) (g : jG) {J : Nat → Nat → Int64}
theorem r_b33 {b : Nat} (hb : b ≤ 1255) : ∀ f y (I : Nat → Nat → Int32), y + f = 128 → ∃ I', (∀ a j, a ≠ 119 → I' a j = I a j) ∧ (∀ j, I' 119 j = if y ≤ j ∧ j < 128 then I 168 (b + j) else I 119 j) ∧ jval d 253 33 [.ref 117, .int (nI b), .int (nI y)] [] (jGs L g, I, J) = jval d 253 62 [.ref 117, .int (nI b), .int (0 : Int32)] [] (jGs L g, I', J) := by
  intro f
  induction f with
  | zero =>
    intro y I hx
    refine ⟨I, fun _ _ _ => rfl, fun j => by rw [if_neg (by omega)], ?_⟩
    rw [e_TextValuesModel_back_33, jif_t (show (128 : Int32) ≤ nI y from nI_le (a := 128) (by omega) (by omega))]
  | succ f ih =>
    intro y I hx
    obtain ⟨I', k1, k3, k4⟩ := ih (y + 1) (ju I 119 y (I 168 (b + y))) (by omega)
    refine ⟨I', fun a j h1 => by rw [k1 a j h1, zu_a h1], fun j => ?_, ?_⟩
    · rw [k3, zu_a (by omega)]
      by_cases e : j = y
      · rw [if_neg (by omega), if_pos (by omega), e, zu_at]
      · by_cases e2 : y + 1 ≤ j ∧ j < 128
        · rw [if_pos e2, if_pos (by omega)]
        · rw [if_neg e2, if_neg (by omega), zu_k e]
    · rw [e_TextValuesModel_back_33, jif_f (show ¬ (128 : Int32) ≤ nI y from nI_ge (b := 128) (by omega) (by omega)), nI_add, jin_nI (by omega) (by omega), cond_true, jin_nI (by omega) (by omega), cond_true, nI_c (by omega), nI_c (by omega), nI_1]
      exact k4
theorem r_b62 {b : Nat} (hb : b ≤ 1255) : ∀ f y (I : Nat → Nat → Int32), y + f = 120 → ∃ I', (∀ a j, a ≠ 167 → ¬ (a = 117 ∧ (j = 87 ∨ j = 58 ∨ j = 59)) → I' a j = I a j) ∧ (∀ j, I' 167 j = if y ≤ j ∧ j < 120 then I 168 (b + 128 + j) else I 167 j) ∧ I' 117 87 = I 168 (b + 248) ∧ I' 117 58 = I 168 (b + 249) ∧ I' 117 59 = I 168 (b + 250) ∧ jval d 253 62 [.ref 117, .int (nI b), .int (nI y)] [] (jGs L g, I, J) = jcV (jcall d 252 [.ref 117] (jGs L g, I', J)) (fun S1 => jval d 253 138 [.ref 117, jjunk, jjunk] [] S1) := by
  intro f
  induction f with
  | zero =>
    intro y I hx
    refine ⟨ju (ju (ju I 117 87 (I 168 (b + 248))) 117 58 (I 168 (b + 249))) 117 59 (I 168 (b + 250)), fun a j h1 h2 => by rw [ju_ne (by omega), ju_ne (by omega), ju_ne (by omega)], fun j => by rw [if_neg (by omega), zu_a (by omega), zu_a (by omega), zu_a (by omega)], by rw [zu_k (by omega), zu_k (by omega), zu_at], by rw [zu_k (by omega), zu_at], zu_at _ _ _ _, ?_⟩
    rw [e_TextValuesModel_back_62, jif_t (show (120 : Int32) ≤ nI y from nI_le (a := 120) (by omega) (by omega)), show nI b + (248 : Int32) = nI (b + 248) from nI_add b 248, show nI b + (249 : Int32) = nI (b + 249) from nI_add b 249, show nI b + (250 : Int32) = nI (b + 250) from nI_add b 250, jin_nI (by omega) (by omega), cond_true, jin_nI (by omega) (by omega), cond_true, jin_nI (by omega) (by omega), cond_true, nI_c (by omega), nI_c (by omega), nI_c (by omega)]
  | succ f ih =>
    intro y I hx
    obtain ⟨I', k1, k2, k3, k4, k5, k6⟩ := ih (y + 1) (ju I 167 y (I 168 (b + 128 + y))) (by omega)
    refine ⟨I', fun a j h1 h2 => by rw [k1 a j h1 h2, zu_a h1], fun j => ?_, by rw [k3, zu_a (by omega)], by rw [k4, zu_a (by omega)], by rw [k5, zu_a (by omega)], ?_⟩
    · rw [k2, zu_a (by omega)]
      by_cases e : j = y
      · rw [if_neg (by omega), if_pos (by omega), e, zu_at]
      · by_cases e2 : y + 1 ≤ j ∧ j < 120
        · rw [if_pos e2, if_pos (by omega)]
        · rw [if_neg e2, if_neg (by omega), zu_k e]
    · rw [e_TextValuesModel_back_62, jif_f (show ¬ (120 : Int32) ≤ nI y from nI_ge (b := 120) (by omega) (by omega)), show nI b + (128 : Int32) = nI (b + 128) from nI_add b 128, nI_add, jin_nI (by omega) (by omega), cond_true, jin_nI (by omega) (by omega), cond_true, nI_c (by omega), nI_c (by omega), nI_1]
      exact k6
end RB
theorem ok_back : okV false 144 253 [] := by
  intro L T su sr sa PC PQ g I J h hw h1 h2
  have hC := mkI_C h.2.2.1.1.1
  have rm := cI_room h
  have hK6 := hw.2.2.1
  by_cases h0 : T.2.2.2.2.1 = 0
  · refine ⟨.int (tAn 1), tRef T 1, ⟨_, rfl⟩, tRef_W hw, cBad (K := fun r2 S1 => jval 39 144 39 [jjunk] [.int r2] S1) h (by omega) ?_ (fun I' => e_TextValues_back_39 ..), rBad hw (by omega) (fun g I J hr => ⟨fun r2 S1 => jval 39 253 11 [jjunk, jjunk, jjunk] [.int r2] S1, ?_, fun I' => e_TextValuesModel_back_11 ..⟩)⟩
    · rw [c_TextValues_back, e_TextValues_back_0, h.2.2.2.2.1.1, h0, jif_t (by decide), e_TextValues_back_33]; rfl
    · rw [c_TextValuesModel_back, e_TextValuesModel_back_0, hr.2.2.2.2.2.1.1, h0, jif_t (by decide)]
  · have hk : ∃ k, T.2.2.2.2.1 = k + 1 := ⟨T.2.2.2.2.1 - 1, by omega⟩
    obtain ⟨k, hk⟩ := hk
    have wz := hw.2.2.2.1 k (by omega)
    have w' : zWf (T.1, T.2.1, T.2.2.1, T.2.2.2.2.2.1 k, k, T.2.2.2.2.2.1, T.2.2.2.2.2.2) := ⟨hw.1, wz, by show k ≤ 6; omega, fun i hi => hw.2.2.2.1 i (by have : i < k := hi; omega), hw.2.2.2.2⟩
    refine ⟨.int (nI k), (T.1, T.2.1, T.2.2.1, T.2.2.2.2.2.1 k, k, T.2.2.2.2.2.1, T.2.2.2.2.2.2), ⟨_, rfl⟩, w', ?_, fun g I J hr => ?_⟩
    · obtain ⟨⟨t1, t2⟩, ⟨t3, t4, t5⟩, hA, ⟨h6, h7⟩, ⟨h8, h9⟩, h10, h11⟩ := h
      obtain ⟨⟨m1, m2⟩, m3, m4, m5, m6, m7, m8⟩ := id hA
      obtain ⟨p1, p2, p3, p4⟩ := h9 k (by omega)
      have w : ∀ a j, (jgsR (jgsR g 1 2 (some (sa k))) 12 k none).2.2.1 a j = if a = 12 ∧ j = k then none else if a = 1 ∧ j = 2 then some (sa k) else g.2.2.1 a j := fun a j => by
        show ju (ju g.2.2.1 1 2 (some (sa k))) 12 k none a j = _
        by_cases e : a = 12 ∧ j = k
        · rw [if_pos e, e.1, e.2, zu_at]
        · rw [if_neg e, ju_ne (by omega)]
          by_cases e2 : a = 1 ∧ j = 2
          · rw [if_pos e2, e2.1, e2.2, zu_at]
          · rw [if_neg e2, ju_ne (by omega)]
      have kk : ∀ a, gK L (jgsR (jgsR g 1 2 (some (sa k))) 12 k none) a = gK L g a ∧ gN L (jgsR (jgsR g 1 2 (some (sa k))) 12 k none) a = gN L g a := fun a => ⟨rfl, rfl⟩
      have kC : (jgsR (jgsR g 1 2 (some (sa k))) 12 k none).2.2.2 = g.2.2.2 := rfl
      generalize hg2 : jgsR (jgsR g 1 2 (some (sa k))) 12 k none = g2 at w kk kC
      have R : ∀ a j, a ≤ g.2.2.2.1 → (okS a ∨ a = 19 ∨ a = 39) → g2.2.2.1 a j = g.2.2.1 a j := fun a j _ ha => by
        rw [w, if_neg (by unfold okS at ha; omega), if_neg (by unfold okS at ha; omega)]
      have S : ∀ z s, cSz L z s sr g I J → cSz L z s sr g2 (ju I 1 4 (nI k)) J := fun z s hs => cSz_B hs m1 m4 (fun a _ => kk a) R (by rw [kC]; exact Nat.le_refl _) (fun a _ ha => ⟨ju_n (by unfold okS at ha; omega), rfl⟩)
      refine ⟨sa k, sr, sa, PC, PQ, g2, ju I 1 4 (nI k), J, ⟨⟨by rw [zu_k (by omega)]; exact t1, fun i hi => by rw [zu_a (by omega)]; exact t2 i hi⟩, ⟨by rw [zu_k (by omega)]; exact t3, by rw [zu_k (by omega)]; exact t4, by rw [zu_k (by omega)]; exact t5⟩, cA_B (dc := 0) (dq := 0) hA (fun a _ => kk a) R (by rw [kC]; rfl) (by rw [kC]; rfl) rm.1 rm.2 (fun a _ hm => ju_n (fun e => m2 a (by omega) (by omega) hm)), ⟨by rw [w, if_neg (by omega), if_pos ⟨rfl, rfl⟩], S _ _ p2⟩, ⟨zu_at _ _ _ _, fun i hi => ?_⟩, uT_cg h10 (fun j => zu_a (by omega)) (fun j => zu_a (by omega)), by rw [zu_a (by omega)]; exact h11⟩, by omega, by omega, fun a y1 y2 => ju_n (by omega), ?_⟩
      · have hi' : i < k := hi
        obtain ⟨v1, v2, v3, v4⟩ := h9 i (by omega)
        exact ⟨by rw [w, if_neg (by omega), if_neg (by omega)]; exact v1, S _ _ v2, p4 i hi', v4⟩
      · have e1 : nI (k + 1) - (1 : Int32) = nI k := zi_sub (a := k + 1) (b := 1) (by omega)
        rw [c_TextValues_back, e_TextValues_back_0, h8, hk, jif_f (show ¬ nI (k + 1) ≤ (0 : Int32) from nI_ge (a := 0) (by omega) (by omega)), jif_f (show ¬ Int32.ofNat 6 < nI (k + 1) from nI_nlt (a := 6) (by omega) (by omega)), e1, jin_nI (by omega) (by omega), cond_true, nI_c (by omega), show (jGs L g).2.2.1 12 k = some (sa k) from (gR_dyn (L := L) (r12_0 (by omega))).trans p1, jo_some, cond_true, jo_some, jGs_R rfl, e_TextValues_back_63, zu_at, jin_nI (by omega) (by omega), cond_true, nI_c (by omega), jGs_R (r12_0 (by omega)), hg2, e_TextValues_back_73, zu_at]
    · have e1 : nI (k + 1) - (1 : Int32) = nI k := zi_sub (a := k + 1) (b := 1) (by omega)
      obtain ⟨⟨t1, t2⟩, t3, t4, ⟨t5, t6⟩, t7, ⟨t8, t9⟩, t10, t11⟩ := hr
      obtain ⟨y1, y2, y3, y4, y5⟩ := t9 k (by omega)
      have hM := wz.2.1.1
      obtain ⟨I2, a1, a2, a3⟩ := r_b33 39 L g (J := J) (b := 251 * k) (by omega) 128 0 (ju I 117 88 (nI k)) (by omega)
      obtain ⟨I3, b1, b2, b3, b4, b5, b6⟩ := r_b62 39 L g (J := J) (b := 251 * k) (by omega) 120 0 I2 (by omega)
      have E2 : ∀ j, I2 168 j = I 168 j := fun j => by rw [a1 _ _ (by omega), zu_a (by omega)]
      have c87 : I3 117 87 = nI (T.2.2.2.2.2.1 k).2.2.1 := by rw [b3, E2]; exact y3
      have c167 : ∀ j, j < (T.2.2.2.2.2.1 k).2.2.1 → I3 167 j = nI ((T.2.2.2.2.2.1 k).2.1 j) := fun j hj => by
        rw [b2, if_pos (by omega), E2]; exact y2 j hj
      obtain ⟨I4, k1, k2, k3, k4⟩ := r_tells 30 L g (J := J) (N := (T.2.2.2.2.2.1 k).2.2.1) (c := (T.2.2.2.2.2.1 k).2.1) (I := I3) hM wz.2.1.2.1 c87 c167 wz.2.1.2.2
      have Fr : ∀ a j, ¬ qX1 a j → a ≠ 148 → a ≠ 119 → a ≠ 167 → ¬ (a = 117 ∧ (j = 52 ∨ j = 60 ∨ j = 87 ∨ j = 58 ∨ j = 59 ∨ j = 88)) → ju I4 117 60 0 a j = I a j := fun a j z1 z2 z3 z4 z5 => by
        rw [ju_ne (by omega), k3 a j z1 z2 (by omega), b1 a j z4 (by omega), a1 a j z3, ju_ne (by omega)]
      have G3 : ∀ a j, ¬ qX1 a j → a ≠ 148 → ¬ (a = 117 ∧ (j = 52 ∨ j = 60)) → ju I4 117 60 0 a j = I3 a j := fun a j z1 z2 z3 => by
        rw [ju_ne (by omega), k3 a j z1 z2 z3]
      have c88 : I4 117 88 = nI k := by
        rw [k3 _ _ (by unfold qX1 qX; omega) (by omega) (by omega), b1 _ _ (by omega) (by omega), a1 _ _ (by omega), zu_at]
      refine ⟨ju I4 117 60 0, J, ⟨⟨by rw [Fr _ _ (by unfold qX1 qX; omega) (by omega) (by omega) (by omega) (by omega)]; exact t1, fun i hi => by rw [Fr _ _ (by unfold qX1 qX; omega) (by omega) (by omega) (by omega) (by omega)]; exact t2 i hi⟩, fun j hj => by rw [Fr _ _ (by unfold qX1 qX; omega) (by omega) (by omega) (by omega) (by omega)]; exact t3 j hj, ⟨rQ_x k1 (fun a j hj => ju_ne (by omega)), fun i hi => ⟨mR_cg (y1 i hi) (fun c hc => ?_), (wz.1 i hi).1⟩, fun y hy => by rw [Fr _ _ (by unfold qX1 qX; omega) (by omega) (by omega) (by omega) (by omega)]; exact t4.2.2.1 y hy, ?_, ?_, wz.2.2.1.1, wz.2.2.1.2.1, wz.2.2.1.2.2.1⟩, ⟨by rw [G3 _ _ (by unfold qX1 qX; omega) (by omega) (by omega)]; exact c87, fun i hi => by rw [G3 _ _ (by unfold qX1 qX; omega) (by omega) (by omega)]; exact c167 i hi⟩, Or.inl (zu_at _ _ _ _), ⟨by rw [zu_k (by omega)]; exact c88, fun i hi => ?_⟩, uT_cg t10 (fun j => Fr _ _ (by unfold qX1 qX; omega) (by omega) (by omega) (by omega) (by omega)) (fun j => Fr _ _ (by unfold qX1 qX; omega) (by omega) (by omega) (by omega) (by omega)), by rw [Fr _ _ (by unfold qX1 qX; omega) (by omega) (by omega) (by omega) (by omega)]; exact t11⟩, oR_I (fun a j ha => Fr a j (by unfold qX1 qX; omega) (by omega) (by omega) (by omega) (by omega)), ?_⟩
      · show ju I4 117 60 0 119 (32 * i + c) = I 168 (251 * k + (32 * i + c))
        rw [G3 _ _ (by unfold qX1 qX; omega) (by omega) (by omega), b1 _ _ (by omega) (by omega), a2, if_pos (by omega), zu_a (by omega)]
      · rw [G3 _ _ (by unfold qX1 qX; omega) (by omega) (by omega), b4, E2]; exact y4
      · rw [G3 _ _ (by unfold qX1 qX; omega) (by omega) (by omega), b5, E2]; exact y5
      · have hi' : i < k := hi
        exact rK_x (t9 i (by omega)) (hw.2.2.2.1 i (by omega)).2.1.1 (fun j _ _ => Fr _ _ (by unfold qX1 qX; omega) (by omega) (by omega) (by omega) (by omega))
      · rw [c_TextValuesModel_back, e_TextValuesModel_back_0, t8, hk, jif_f (show ¬ nI (k + 1) = (0 : Int32) from fun e => by have := (nI_eq (b := 0) (by omega) (by omega)).mp e; omega), e1, show (251 : Int32) * nI k = nI (251 * k) from nI_mul 251 k, show Value.int (0 : Int32) = Value.int (nI 0) from rfl, a3, show Value.int (0 : Int32) = Value.int (nI 0) from rfl, b6, k4, jcV_some, e_TextValuesModel_back_138, jif_t (Or.inl rfl), c88]

/-! TOP: program -/
set_option maxRecDepth 100000
theorem ok_program : okV false 129 258 [] := by
  intro L T su sr sa PC PQ g I J h hw h1 h2
  have hC := mkI_C h.2.2.1.1.1
  have hP := mkI_P h.2.2.1.1.1
  have hN := hw.1.1
  obtain ⟨g1, I1, J1, p, F, c1, ⟨c2a, c2⟩, c3, c4⟩ := c_readP 15 L g (J := J) (c := T.2.1) (N := T.1) hw.1.1 hw.1.2 h.1.2 hC (by omega) (by omega)
  obtain ⟨F1, F2, F3, F4, F5⟩ := F
  have S1 : ∀ a, a ≤ g.2.2.2.1 → ¬ (14 ≤ a ∧ a ≤ 18) → ¬ (30 ≤ a ∧ a ≤ 38) → I1 a = I a ∧ J1 a = J a := fun a ha _ y => ⟨funext (fun k => F1 a k ha (by omega) (by omega) (by omega)), F2 a ha⟩
  have dcx : ∃ dc dq, g1.2.2.2.1 = g.2.2.2.1 + dc ∧ g1.2.2.2.2 = g.2.2.2.2 + dq ∧ dc ≤ 123 ∧ dq ≤ 1084 := ⟨g1.2.2.2.1 - g.2.2.2.1, g1.2.2.2.2 - g.2.2.2.2, by omega, by omega, by omega, by omega⟩
  obtain ⟨dc, dq, d1, d2, d3, d4⟩ := dcx
  have cI1 : cI L T su sr sa (PC + dc) (PQ + dq) g1 I1 J1 := cI_G h F3 (fun a k ha hx => F4 a k ha (fun e => by unfold okS at hx; omega)) d1 d2 (by omega) (by omega) S1
  have O1 : oC I I1 := fun a y1 y2 => (S1 a (by omega) (by omega) (by omega)).1
  cases hp : (pPrg T.2.1 T.1).1 with
  | false =>
    obtain ⟨e1, e2⟩ := c4 hp
    refine ⟨.int ((-10 : Int32) - nI (pPrg T.2.1 T.1).2.1), T, ⟨_, rfl⟩, hw, ⟨su, sr, sa, _, _, g1, I1, J1, cI1, by omega, by omega, O1, ?_⟩, fun g I J hr => ?_⟩
    · rw [c_TextValues_program, e_TextValues_program_0, h.1.1, e2, jcR_null, e_TextValues_program_15, e1]
    · obtain ⟨I2, b1, b2, b3, b4, b5⟩ := r_readsText 38 L g (J := J) hr hw
      rcases r_readsProgram 31 L g (J := J) hw.1.1 hw.1.2 b3 b4 with ⟨i', q', I3, a1, -⟩ | ⟨p', q', I3, a1, a2, a3, a4, a5⟩
      · rw [a1] at hp; cases hp
      · have Q2 : ∀ a j, ¬ qX1 a j → I3 a j = I2 a j := a2
        obtain ⟨I4, k1, k2, k3, k4⟩ := r_tells 30 L g (J := J) (N := T.2.2.2.1.2.2.1) (c := T.2.2.2.1.2.1) (I := I3) hw.2.1.2.1.1 hw.2.1.2.1.2.1 (by rw [Q2 _ _ (by unfold qX1 qX; omega)]; exact b1.2.2.2.1.1) (fun j hj => by rw [Q2 _ _ (by unfold qX1 qX; omega)]; exact b1.2.2.2.1.2 j hj) hw.2.1.2.1.2.2
        have x60 : I3 117 60 = I2 117 60 := Q2 _ _ (by unfold qX1 qX; omega)
        have Fr : ∀ a j, ¬ qX1 a j → a ≠ 148 → ¬ (a = 117 ∧ j = 52) → ju I4 117 60 (I3 117 60) a j = I2 a j := fun a j y1 y2 y3 => by
          by_cases e : a = 117 ∧ j = 60
          · rw [e.1, e.2, zu_at, x60]
          · rw [ju_ne (by omega), k3 a j y1 y2 (by omega), Q2 a j y1]
        refine ⟨ju I4 117 60 (I3 117 60), J, rI_q b1 hw (rQ_x k1 (fun a j hj => ju_ne (by omega))) (fun a j y1 y2 y3 y4 => Fr a j (by unfold qX1 qX; unfold iX at y1; omega) (by unfold iX at y1; omega) (by unfold iX at y1; omega)) (fun y hy => by rw [Fr _ _ (by unfold qX1 qX; omega) (by omega) (by omega)]; exact b1.2.2.1.2.2.1 y hy), oR_t b2 (oR_I (fun a j ha => Fr a j (by unfold qX1 qX; omega) (by omega) (by omega))), ?_⟩
        have h01 : I3 117 60 = 0 ∨ I3 117 60 = 1 := by
          rw [x60]
          rcases b1.2.2.2.2.1 with e | ⟨e, -⟩
          · exact Or.inl e
          · exact Or.inr e
        rw [c_TextValuesModel_program, e_TextValuesModel_program_0, b5, jcV_some, e_TextValuesModel_program_4, a5, jcI_some, e_TextValuesModel_program_8, jif_t (by decide), k4, jcV_some, e_TextValuesModel_program_25, jif_t h01, a3, a1]
  | true =>
    obtain ⟨⟨e0, e1⟩, e2, e3⟩ := c3 hp
    have hA := h.2.2.1
    have O := mkO_eq (g := g) (g' := g1) (fun k => F4 19 k (by omega) (by omega))
    have gq : gQ L (pPrg T.2.1 T.1).2.2 p sr (T.1 + 1) g1 I1 := ⟨e2, fun x hx => ⟨fun hm => by
      have := mkO_C hA.1.1 ((O x).mp hm)
      have := e1 x hx
      omega, fun e => by
      have := e1 x hx
      have := hA.2.2.1
      omega⟩⟩
    obtain ⟨g2, I2, J2, n1, n2, n3, n4, n5⟩ := c_withQ 37 L g1 cI1 gq (by omega) (by omega)
    obtain ⟨g3, I3, o1, o2, o3, o4⟩ := c_chg 38 L g2 n1 hw n2 n3
    have hpC : p ≤ g1.2.2.2.1 := e2.2.1
    have k6 : gK L g3 p = 6 := (o3 p).trans ((n4 p hpC).2.2.trans e2.2.2.1)
    have i6 : I3 p 1 = nI ((pPrg T.2.1 T.1).2.2 117 41) := by
      rw [o2 p (by omega), (n4 p hpC).1]; exact e2.2.2.2.1
    have hpp : pPrg T.2.1 T.1 = (true, (pPrg T.2.1 T.1).2.1, (pPrg T.2.1 T.1).2.2) := Prod.ext hp rfl
    obtain ⟨w1, w2, w3, w4⟩ := hw.2.1
    have zk : zOk (T.2.2.2.1.1, T.2.1, T.1, T.2.2.2.1.2.2.2.1, T.2.2.2.1.2.2.2.2) := by
      obtain ⟨y1, y2, y3, y4⟩ := pPrg_b hw.1.1 hw.1.2 hpp
      exact ⟨w1, ⟨hw.1.1, hw.1.2, hp⟩, ⟨w3.1, w3.2.1, ⟨Nat.le_trans y1 hN, Nat.le_trans y2 hN, Nat.le_trans y3 hN, Nat.le_trans y4 hN⟩, pPrg_8 hw.1.1 hpp⟩, ⟨L, g1, I1, _, 170, _, e2.2.2.2.2.2.2⟩⟩
    refine ⟨.int (nI ((pPrg T.2.1 T.1).2.2 117 41)), tChg T (T.2.2.2.1.1, T.2.1, T.1, T.2.2.2.1.2.2.2.1, T.2.2.2.1.2.2.2.2), ⟨_, rfl⟩, tChg_W hw zk, ⟨_, _, _, _, _, g3, I3, J2, o1, by omega, by omega, fun a y1 y2 => by rw [o2 a (by omega), (n4 a (by omega)).1, O1 a y1 y2], ?_⟩, fun g I J hr => ?_⟩
    · rw [c_TextValues_program, e_TextValues_program_0, h.1.1, e3, jcR_some, e_TextValues_program_15a, c_s9 cI1, n5, jcR_some, e_TextValues_program_40a, o4, jcV_some, e_TextValues_program_43, if_pos (show (jGs L g3).1 p = 6 from k6), i6]
    · obtain ⟨I4, b1, b2, b3, b4, b5⟩ := r_readsText 38 L g (J := J) hr hw
      rcases r_readsProgram 31 L g (J := J) hw.1.1 hw.1.2 b3 b4 with ⟨i', q', I5, a1, a2, a3, a4, a5⟩ | ⟨p', q', I5, a1, -⟩
      · have Q2 : ∀ a j, ¬ qX1 a j → I5 a j = I4 a j := a2
        have pb : pBd 120 q' := ⟨Nat.le_trans a4.1 hN, Nat.le_trans a4.2.1 hN, Nat.le_trans a4.2.2.1 hN, Nat.le_trans a4.2.2.2 hN⟩
        have j5 : rJ q' T I5 := by
          obtain ⟨⟨t1, t2⟩, t3, ⟨r1, r2, r3, r4, r5, r6, r7, r8⟩, ⟨t5, t6⟩, t7, ⟨t8, t9⟩, t10, t11⟩ := b1
          exact ⟨⟨by rw [Q2 _ _ (by unfold qX1 qX; omega)]; exact t1, fun i hi => by rw [Q2 _ _ (by unfold qX1 qX; omega)]; exact t2 i hi⟩, fun j hj => by rw [Q2 _ _ (by unfold qX1 qX; omega)]; exact t3 j hj, ⟨a3, fun i hi => ⟨mR_cg (r2 i hi).1 (fun c hc => Q2 _ _ (by unfold qX1 qX; omega)), (r2 i hi).2⟩, fun y hy => by rw [Q2 _ _ (by unfold qX1 qX; omega)]; exact r3 y hy, by rw [Q2 _ _ (by unfold qX1 qX; omega)]; exact r4, by rw [Q2 _ _ (by unfold qX1 qX; omega)]; exact r5, r6, r7, pb⟩, ⟨by rw [Q2 _ _ (by unfold qX1 qX; omega)]; exact t5, fun i hi => by rw [Q2 _ _ (by unfold qX1 qX; omega)]; exact t6 i hi⟩, ⟨by rw [Q2 _ _ (by unfold qX1 qX; omega)]; exact t8, fun i hi => rK_x (t9 i hi) (hw.2.2.2.1 i hi).2.1.1 (fun j _ _ => Q2 _ _ (by unfold qX1 qX; omega))⟩, uT_cg t10 (fun j => Q2 _ _ (by unfold qX1 qX; omega)) (fun j => Q2 _ _ (by unfold qX1 qX; omega)), by rw [Q2 _ _ (by unfold qX1 qX; omega)]; exact t11⟩
        obtain ⟨I6, k1, k2, k3, k4⟩ := r_leaveQ 38 L g (J := J) j5 hw
        have w' := tChg_W hw hw.2.1
        obtain ⟨⟨t1, t2⟩, t3, ⟨r1, r2, r3, r4, r5, r6, r7, r8⟩, ⟨t5, t6⟩, ⟨t8, t9⟩, t10, t11⟩ := k1
        obtain ⟨I7, l1, l2, l3, l4⟩ := r_p41 39 L g (J := J) (N := T.1) (c := T.2.1) hN T.1 0 I6 (by omega) t1 t2 (fun j hj => by omega)
        have eq' : q' = (pPrg T.2.1 T.1).2.2 := by rw [a1]
        refine ⟨I7, J, ⟨⟨by rw [l1 _ _ (by omega) (by omega)]; exact t1, fun i hi => by rw [l1 _ _ (by omega) (by omega)]; exact t2 i hi⟩, fun j hj => by rw [l1 _ _ (by omega) (by omega)]; exact t3 j hj, ⟨?_, fun i hi => ⟨mR_cg (r2 i hi).1 (fun c hc => l1 _ _ (by omega) (by omega)), (r2 i hi).2⟩, fun y hy => by rw [l1 _ _ (by omega) (by omega)]; exact r3 y hy, by rw [l1 _ _ (by omega) (by omega)]; exact r4, by rw [l1 _ _ (by omega) (by omega)]; exact r5, r6, r7, ?_⟩, ⟨l2, l3⟩, Or.inl (by rw [l1 _ _ (by omega) (by omega)]; exact k2), ⟨by rw [l1 _ _ (by omega) (by omega)]; exact t8, fun i hi => rK_x (t9 i hi) (w'.2.2.2.1 i hi).2.1.1 (fun j _ _ => l1 _ _ (by omega) (by omega))⟩, uT_cg t10 (fun j => l1 _ _ (by omega) (by omega)) (fun j => l1 _ _ (by omega) (by omega)), by rw [l1 _ _ (by omega) (by omega)]; exact t11⟩, oR_t b2 (oR_I (fun a j ha => by rw [l1 a j (by omega) (by omega), k3 a j (by omega) (by omega), Q2 a j (by unfold qX1 qX; omega)])), ?_⟩
        · show rQ (pPrg T.2.1 T.1).2.2 I7
          rw [← eq']
          exact rQ_x r1 (fun a j hj => l1 a j (by omega) (by omega))
        · show pBd 120 (pPrg T.2.1 T.1).2.2
          rw [← eq']; exact r8
        · rw [c_TextValuesModel_program, e_TextValuesModel_program_0, b5, jcV_some, e_TextValuesModel_program_4, a5, jcI_some, e_TextValuesModel_program_8, jif_f (by decide), k4, jcV_some, e_TextValuesModel_program_39, show (0 : Int32) = nI 0 from rfl, l4, r1.1.2.1, eq']
      · rw [a1] at hp; cases hp

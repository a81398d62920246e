/-! TOP: numbers that are told -/
set_option maxRecDepth 100000
theorem ix_z (x : Int32) {n : Nat} (hn : n < 2147483648) : (∃ j, j < n ∧ x = nI j ∧ jb (0 ≤ x ∧ x ≤ nI n - 1) = true) ∨ ((x < 0 ∨ (¬ x < 0 ∧ nI n ≤ x)) ∧ jb (0 ≤ x ∧ x ≤ nI n - 1) = false) := by
  by_cases h0 : 0 < n
  · rw [show nI n - 1 = nI (n - 1) from zi_sub (b := 1) (by omega)]
    exact ix_b x h0 hn
  · have e : n = 0 := by omega
    subst e
    refine Or.inr ⟨?_, jb_f.mpr (fun hh => ?_)⟩
    · by_cases h : x < 0
      · exact Or.inl h
      · exact Or.inr ⟨h, Int32.not_lt.mp h⟩
    · have h3 : (0 : Int32) ≤ nI 0 - 1 := Int32.le_trans hh.1 hh.2
      exact absurd h3 (by decide)
/-- the program of the setup -/
theorem c_pg {L : Nat} {T : zT} {su sr : Nat} {sa : Nat → Nat} {PC PQ : Nat} {g : jG} {I : Nat → Nat → Int32} {J : Nat → Nat → Int64} (h : cI L T su sr sa PC PQ g I J) : ∃ p, pg L (zq T.2.2.2.1) g I p (T.2.2.2.1.2.2.1 + 1) g.2.2.2.1 ∧ ∀ F : Nat → Option (Option Value × jS), jo (g.2.2.1 1 2) none (fun b1 => if (jGs L g).1 b1 = 9 then jo ((jGs L g).2.2.1 b1 1) none (fun b2 => if (jGs L g).1 b2 = 6 then F b2 else none) else none) = F p := by
  obtain ⟨c1, c2, c3, c4, c5, c6, p, c7, c8, c9⟩ := h.2.2.2.1.2.1
  refine ⟨p, c8, fun F => ?_⟩
  rw [h.2.2.2.1.1, jo_some, if_pos (show (jGs L g).1 su = 9 from c3), show (jGs L g).2.2.1 su 1 = some p from c7, jo_some, if_pos (show (jGs L g).1 p = 6 from c8.2.2.1)]
theorem c_s9 {L : Nat} {T : zT} {su sr : Nat} {sa : Nat → Nat} {PC PQ : Nat} {g : jG} {I : Nat → Nat → Int32} {J : Nat → Nat → Int64} (h : cI L T su sr sa PC PQ g I J) (F : Nat → Option (Option Value × jS)) : jo (g.2.2.1 1 2) none (fun b1 => if (jGs L g).1 b1 = 9 then F b1 else none) = F su := by
  obtain ⟨c1, c2, c3, -⟩ := h.2.2.2.1.2.1
  rw [h.2.2.2.1.1, jo_some, if_pos (show (jGs L g).1 su = 9 from c3)]
theorem ok_alarms : okV false 136 268 [] := by
  intro L T su sr sa PC PQ g I J h hw h1 h2
  obtain ⟨p, hp, e⟩ := c_pg h
  refine ⟨.int (nI (zq T.2.2.2.1 117 42)), T, ⟨_, rfl⟩, hw, ⟨su, sr, sa, PC, PQ, g, I, J, h, by omega, by omega, oC_r I, ?_⟩, fun g I J hr => ⟨I, J, hr, oR_r I J, ?_⟩⟩
  · rw [c_TextValues_alarms, e_TextValues_alarms_0, e, c_alarmCount 38 L g hp, jcI_some, e_TextValues_alarms_10]
  · rw [c_TextValuesModel_alarms, e_TextValuesModel_alarms_0, hr.2.2.1.1.1.2.2.1]
theorem c_rings (d L : Nat) (g : jG) {I : Nat → Nat → Int32} {J : Nat → Nat → Int64} : jcall (d + 1) 86 [.ref 111] (jGs L g, I, J) = some (some (.int (I 111 12)), (jGs L g, I, J)) := by
  rw [c_Runner_keptRings, e_Runner_keptRings_0]
theorem ok_rang : okV false 143 242 [] := by
  intro L T su sr sa PC PQ g I J h hw h1 h2
  refine ⟨.int (nI T.2.2.2.2.2.2.2), T, ⟨_, rfl⟩, hw, ⟨su, sr, sa, PC, PQ, g, I, J, h, by omega, by omega, oC_r I, ?_⟩, fun g I J hr => ⟨I, J, hr, oR_r I J, ?_⟩⟩
  · rw [c_TextValues_rang, e_TextValues_rang_0, c_rings 38 L g, jcI_some, e_TextValues_rang_7, h.2.2.2.2.2.2]
  · rw [c_TextValuesModel_rang, e_TextValuesModel_rang_0, hr.2.2.2.2.2.2.2]
/-- the tallies -/
def zTd (T : zT) (w : Nat) : Int32 := if w < 3 then T.2.2.1 w else if w = 3 then nI T.2.2.2.1.2.2.2.1 else if w = 4 then nI T.2.2.2.1.2.2.2.2 else if w = 5 then nI T.1 else nI T.2.2.2.2.1
theorem c_tally (d L : Nat) (g : jG) {T : zT} {su sr : Nat} {sa : Nat → Nat} {PC PQ w : Nat} {I : Nat → Nat → Int32} {J : Nat → Nat → Int64} (h : cI L T su sr sa PC PQ g I J) (hw : w < 7) : jcall (d + 1) 155 [.ref 1, .int (nI w)] (jGs L g, I, J) = some (some (.int (zTd T w)), (jGs L g, I, J)) := by
  have c := c_s9 h
  obtain ⟨-, -, -, s4, s5, -⟩ := h.2.2.2.1.2.1
  rw [c_TextValues_tally, e_TextValues_tally_0]
  have hc : w = 0 ∨ w = 1 ∨ w = 2 ∨ w = 3 ∨ w = 4 ∨ w = 5 ∨ w = 6 := by omega
  rcases hc with e | e | e | e | e | e | e <;> subst e
  · rw [jif_t (by decide), e_TextValues_tally_40, h.2.1.1]; rfl
  · rw [jif_f (by decide), jif_t (by decide), e_TextValues_tally_45, h.2.1.2.1]; rfl
  · rw [jif_f (by decide), jif_f (by decide), jif_t (by decide), e_TextValues_tally_50, h.2.1.2.2]; rfl
  · rw [jif_f (by decide), jif_f (by decide), jif_f (by decide), jif_t (by decide), e_TextValues_tally_55, c, s4]; rfl
  · rw [jif_f (by decide), jif_f (by decide), jif_f (by decide), jif_f (by decide), jif_t (by decide), e_TextValues_tally_63, c, s5]; rfl
  · rw [jif_f (by decide), jif_f (by decide), jif_f (by decide), jif_f (by decide), jif_f (by decide), jif_t (by decide), e_TextValues_tally_71, h.1.1]; rfl
  · rw [jif_f (by decide), jif_f (by decide), jif_f (by decide), jif_f (by decide), jif_f (by decide), jif_f (by decide), e_TextValues_tally_76, h.2.2.2.2.1.1]; rfl
theorem r_told (d L : Nat) (g : jG) {T : zT} {w : Nat} {I : Nat → Nat → Int32} {J : Nat → Nat → Int64} (h : rI T I) (hw : w < 7) : jcall (d + 1) 274 [.ref 117, .int (nI w)] (jGs L g, I, J) = some (some (.int (zTd T w)), (jGs L g, I, J)) := by
  rw [c_TextValuesModel_toldOf, e_TextValuesModel_toldOf_0]
  have hc : w = 0 ∨ w = 1 ∨ w = 2 ∨ w = 3 ∨ w = 4 ∨ w = 5 ∨ w = 6 := by omega
  rcases hc with e | e | e | e | e | e | e <;> subst e
  · rw [jif_t (by decide), e_TextValuesModel_toldOf_40, jin_nI (by omega) (by omega), cond_true, nI_c (by omega), h.2.1 0 (by omega)]; rfl
  · rw [jif_f (by decide), jif_t (by decide), e_TextValuesModel_toldOf_40, jin_nI (by omega) (by omega), cond_true, nI_c (by omega), h.2.1 1 (by omega)]; rfl
  · rw [jif_f (by decide), jif_f (by decide), jif_t (by decide), e_TextValuesModel_toldOf_40, jin_nI (by omega) (by omega), cond_true, nI_c (by omega), h.2.1 2 (by omega)]; rfl
  · rw [jif_f (by decide), jif_f (by decide), jif_f (by decide), jif_t (by decide), e_TextValuesModel_toldOf_47, h.2.2.1.2.2.2.1]; rfl
  · rw [jif_f (by decide), jif_f (by decide), jif_f (by decide), jif_f (by decide), jif_t (by decide), e_TextValuesModel_toldOf_52, h.2.2.1.2.2.2.2.1]; rfl
  · rw [jif_f (by decide), jif_f (by decide), jif_f (by decide), jif_f (by decide), jif_f (by decide), jif_t (by decide), e_TextValuesModel_toldOf_57, h.1.1]; rfl
  · rw [jif_f (by decide), jif_f (by decide), jif_f (by decide), jif_f (by decide), jif_f (by decide), jif_f (by decide), e_TextValuesModel_toldOf_62, h.2.2.2.2.2.1.1]; rfl
theorem ok_told (x : Int32) : okV false 145 275 [.int x] := by
  intro L T su sr sa PC PQ g I J h hw h1 h2
  rcases ix_b x (n := 7) (by omega) (by omega) with ⟨j, hj, e, hb⟩ | ⟨hx, hb⟩
  · subst e
    refine ⟨.int (zTd T j), T, ⟨_, rfl⟩, hw, ⟨su, sr, sa, PC, PQ, g, I, J, h, by omega, by omega, oC_r I, ?_⟩, fun g I J hr => ⟨I, J, hr, oR_r I J, ?_⟩⟩
    · rw [c_TextValues_told, e_TextValues_told_0, jif_f (nI_pos (by omega)), jif_t (show nI j ≤ (6 : Int32) from nI_le (b := 6) (by omega) (by omega)), c_tally 38 L g h hj, jcI_some, e_TextValues_told_22]
    · rw [c_TextValuesModel_told, e_TextValuesModel_told_0, s_in 38 L g I J, show (6 : Int32) = nI (7 - 1) from rfl, hb, jcI_some, e_TextValuesModel_told_7, jif_f (by decide), r_told 38 L g hr hj, jcI_some, e_TextValuesModel_told_15, e_TextValuesModel_told_22]
  · refine ⟨.int (tAn 0), tRef T 0, ⟨_, rfl⟩, tRef_W hw, cBad (K := fun r2 S1 => jval 39 145 16 [jjunk, jjunk] [.int r2] S1) h (by omega) ?_ (fun I' => e_TextValues_told_16 ..), rBad hw (by omega) (fun g I J hr => ⟨fun r2 S1 => jval 39 275 22 [jjunk, jjunk] [.int r2] S1, ?_, fun I' => e_TextValuesModel_told_22 ..⟩)⟩
    · rw [c_TextValues_told, e_TextValues_told_0]
      rcases hx with hx | ⟨hx1, hx2⟩
      · rw [jif_t hx, e_TextValues_told_10]; rfl
      · rw [jif_f hx1, jif_f (show ¬ x ≤ (6 : Int32) from fun e => nI_ge (a := 6) (b := 7) (by omega) (by omega) (Int32.le_trans hx2 e)), e_TextValues_told_10]; rfl
    · rw [c_TextValuesModel_told, e_TextValuesModel_told_0, s_in 38 L g I J, show (6 : Int32) = nI (7 - 1) from rfl, hb, jcI_some, e_TextValuesModel_told_7, jif_t (by decide)]
/-- the counts -/
noncomputable def zCt (z : zS) (w : Nat) : Int32 := if w = 0 then nI (zq z 117 41) else if w = 1 then nI (zR z).2.1 else if w = 2 then nI (zR z).2.2.1 else bI (zR z).1.isNone
theorem zCt_0 (z : zS) : zCt z 0 = nI (zq z 117 41) := by unfold zCt; rw [if_pos rfl]
theorem zCt_1 (z : zS) : zCt z 1 = nI (zR z).2.1 := by unfold zCt; rw [if_neg (by decide), if_pos rfl]
theorem zCt_2 (z : zS) : zCt z 2 = nI (zR z).2.2.1 := by unfold zCt; rw [if_neg (by decide), if_neg (by decide), if_pos rfl]
theorem zCt_3 (z : zS) : zCt z 3 = bI (zR z).1.isNone := by unfold zCt; rw [if_neg (by decide), if_neg (by decide), if_neg (by decide)]
theorem c_counted (d L : Nat) (g : jG) {T : zT} {su sr : Nat} {sa : Nat → Nat} {PC PQ w : Nat} {I : Nat → Nat → Int32} {J : Nat → Nat → Int64} (h : cI L T su sr sa PC PQ g I J) (hz : cZs L g I J 40 (zR T.2.2.2.1).1) (hg : cG (zq T.2.2.2.1) (zR T.2.2.2.1).2 sr I) (hw : w < 4) : jcall (d + 2) 153 [.ref 1, .int (nI w)] (jGs L g, I, J) = some (some (.int (zCt T.2.2.2.1 w)), (jGs L g, I, J)) := by
  obtain ⟨p, hp, ep⟩ := c_pg h
  rw [c_TextValues_counted, e_TextValues_counted_0]
  have hc : w = 0 ∨ w = 1 ∨ w = 2 ∨ w = 3 := by omega
  rcases hc with e | e | e | e <;> subst e
  · rw [jif_t (by decide), e_TextValues_counted_28, ep, hp.2.2.2.1, zCt_0]
  · rw [jif_f (by decide), jif_t (by decide), e_TextValues_counted_39, c_Analysis_allRounds, e_Analysis_allRounds_0, jcI_some, e_TextValues_counted_46, hg.1, zCt_1]
  · rw [jif_f (by decide), jif_f (by decide), jif_t (by decide), e_TextValues_counted_47, c_Analysis_mostRounds, e_Analysis_mostRounds_0, jcI_some, e_TextValues_counted_54, hg.2.1, zCt_2]
  · rw [jif_f (by decide), jif_f (by decide), jif_f (by decide), e_TextValues_counted_55, c_isPossible d L g hz, jcI_some, e_TextValues_counted_62, zCt_3]
    cases (zR T.2.2.2.1).1 with
    | none => rw [jif_t (by decide), e_TextValues_counted_70]; rfl
    | some V => rw [jif_f (show ¬ bI (some V).isSome = 0 from fun e => absurd (show bI true = 0 from e) (by decide)), e_TextValues_counted_70]; rfl
theorem r_countOf (d L : Nat) (g : jG) {T : zT} {w : Nat} {I : Nat → Nat → Int32} {J : Nat → Nat → Int64} (h : rI T I) (hw : zWf T) (hw4 : w < 4) : ∃ I', rI T I' ∧ oR I I' J J ∧ jcall (d + 15) 272 [.ref 117, .int (nI w)] (jGs L g, I, J) = some (some (.int (zCt T.2.2.2.1 w)), (jGs L g, I', J)) := by
  obtain ⟨I', a1, a2, a3, a4⟩ := r_ft d L g (J := J) h hw
  refine ⟨I', a1, a2, ?_⟩
  rw [c_TextValuesModel_countOf, e_TextValuesModel_countOf_0, a4, jcV_some, e_TextValuesModel_countOf_4]
  have hc : w = 0 ∨ w = 1 ∨ w = 2 ∨ w = 3 := by omega
  rcases hc with e | e | e | e <;> subst e
  · rw [jif_t (by decide), e_TextValuesModel_countOf_46, a1.2.2.1.1.1.2.1, zCt_0]
  · rw [jif_f (by decide), jif_t (by decide), e_TextValuesModel_countOf_46, a3.2.1, zCt_1, Nat.add_zero]
  · rw [jif_f (by decide), jif_f (by decide), jif_t (by decide), e_TextValuesModel_countOf_46, a3.2.2.1, zCt_2, Nat.max_zero]
  · rw [jif_f (by decide), jif_f (by decide), jif_f (by decide), show jin (48 : Int32) 56 = true from jin_nI (n := 48) (by omega) (by omega), cond_true, show (48 : Int32).toNatClampNeg = 48 from rfl, e_TextValuesModel_countOf_46, zCt_3]
    rcases a3.1 with ⟨e1, e2⟩ | ⟨V, e1, e2, e3⟩
    · rw [e1, e2]; rfl
    · rw [e1, e2]; rfl
/-- the analysis at the top -/
theorem c_rfK {L : Nat} {T : zT} {su sr : Nat} {sa : Nat → Nat} {PC PQ : Nat} {g : jG} {I : Nat → Nat → Int32} {J : Nat → Nat → Int64} (h : cI L T su sr sa PC PQ g I J) (hw : zWf T) (h1 : PC + 200 ≤ 600000) (h2 : PQ + 6000 ≤ 7302250) (K : jS → Option (Option Value × jS)) : ∃ g' I' J' sr' PC' PQ', cI L T su sr' sa PC' PQ' g' I' J' ∧ PC' ≤ PC + 1 ∧ PQ' ≤ PQ + 3000 ∧ oC I I' ∧ (cZs L g' I' J' 40 (zR T.2.2.2.1).1 ∧ cG (zq T.2.2.2.1) (zR T.2.2.2.1).2 sr' I' ∧ 100 * zq T.2.2.2.1 117 42 ≤ gN L g' sr') ∧ jo (g.2.2.1 1 2) (jcV (jcall 39 7 [.ref 39, .null] (jGs L g, I, J)) K) (fun b1 => jcV (jcall 39 7 [.ref 39, .ref b1] (jGs L g, I, J)) K) = K (jGs L g', I', J') := by
  obtain ⟨g', I', J', sr', PC', PQ', a1, a2, a3, a4, a5, a6⟩ := c_rf 18 L g h hw (by omega) (by omega)
  refine ⟨g', I', J', sr', PC', PQ', a1, a2, a3, a4, a5, ?_⟩
  rw [h.2.2.2.1.1, jo_some, a6, jcV_some]
theorem ok_count (x : Int32) : okV false 139 273 [.int x] := by
  intro L T su sr sa PC PQ g I J h hw h1 h2
  rcases ix_b x (n := 4) (by omega) (by omega) with ⟨j, hj, e, hb⟩ | ⟨hx, hb⟩
  · subst e
    obtain ⟨g1, I1, J1, sr1, PC1, PQ1, c1, c2, c3, c4, c5, c6⟩ := c_rfK h hw h1 h2 (fun S1 => jval 39 139 27 [.ref 1, .int (nI j)] [] S1)
    refine ⟨.int (zCt T.2.2.2.1 j), T, ⟨_, rfl⟩, hw, ⟨su, sr1, sa, PC1, PQ1, g1, I1, J1, c1, by omega, by omega, c4, ?_⟩, fun g I J hr => ?_⟩
    · rw [c_TextValues_count, e_TextValues_count_0, jif_f (nI_pos (by omega)), jif_t (show nI j ≤ (3 : Int32) from nI_le (b := 3) (by omega) (by omega))]
      refine c6.trans ?_
      show jval 39 139 27 [.ref 1, .int (nI j)] [] (jGs L g1, I1, J1) = _
      rw [e_TextValues_count_27, c_counted 37 L g1 c1 c5.1 c5.2.1 hj, jcI_some, e_TextValues_count_32]
    · obtain ⟨I', a1, a2, a3⟩ := r_countOf 24 L g (J := J) hr hw hj
      refine ⟨I', J, a1, a2, ?_⟩
      rw [c_TextValuesModel_count, e_TextValuesModel_count_0, s_in 38 L g I J, show (3 : Int32) = nI (4 - 1) from rfl, hb, jcI_some, e_TextValuesModel_count_6, jif_f (by decide), a3, jcI_some, e_TextValuesModel_count_14, e_TextValuesModel_count_21]
  · refine ⟨.int (tAn 0), tRef T 0, ⟨_, rfl⟩, tRef_W hw, cBad (K := fun r2 S1 => jval 39 139 15 [jjunk, jjunk] [.int r2] S1) h (by omega) ?_ (fun I' => e_TextValues_count_15 ..), rBad hw (by omega) (fun g I J hr => ⟨fun r2 S1 => jval 39 273 21 [jjunk, jjunk] [.int r2] S1, ?_, fun I' => e_TextValuesModel_count_21 ..⟩)⟩
    · rw [c_TextValues_count, e_TextValues_count_0]
      rcases hx with hx | ⟨hx1, hx2⟩
      · rw [jif_t hx, e_TextValues_count_9]; rfl
      · rw [jif_f hx1, jif_f (show ¬ x ≤ (3 : Int32) from fun e => nI_ge (a := 3) (b := 4) (by omega) (by omega) (Int32.le_trans hx2 e)), e_TextValues_count_9]; rfl
    · rw [c_TextValuesModel_count, e_TextValuesModel_count_0, s_in 38 L g I J, show (3 : Int32) = nI (4 - 1) from rfl, hb, jcI_some, e_TextValuesModel_count_6, jif_t (by decide)]

/-! TOP: alarm, raised, within, holds -/
set_option maxRecDepth 100000
theorem ok_alarm (x y : Int32) : okV false 137 270 [.int x, .int y] := by
  intro L T su sr sa PC PQ g I J h hw h1 h2
  have bad : (∀ (g : jG) (I : Nat → Nat → Int32) (J : Nat → Nat → Int64) su sr sa PC PQ, cI L T su sr sa PC PQ g I J → jcall 40 137 [.ref 1, .int x, .int y] (jGs L g, I, J) = jval 39 137 27 [.ref 1, jjunk, jjunk] [] (jGs L g, I, J)) → (∀ (g : jG) (I : Nat → Nat → Int32) (J : Nat → Nat → Int64), rI T I → jcall 40 270 [.ref 117, .int x, .int y] (jGs L g, I, J) = jval 39 270 32 [.ref 117, jjunk, jjunk] [] (jGs L g, I, J)) → ∃ v T', (∃ x, v = Value.int x) ∧ zWf T' ∧ cRs L T' PC PQ I 137 [.int x, .int y] v (jGs L g, I, J) ∧ rRs L T T' 270 [.int x, .int y] v := by
    intro e1 e2
    refine ⟨.int (tAn 0), tRef T 0, ⟨_, rfl⟩, tRef_W hw, cBad (K := fun r2 S1 => jval 39 137 33 [jjunk, jjunk, jjunk] [.int r2] S1) h (by omega) ?_ (fun I' => e_TextValues_alarm_33 ..), rBad hw (by omega) (fun g I J hr => ⟨fun r2 S1 => jval 39 270 36 [jjunk, jjunk, jjunk] [.int r2] S1, ?_, fun I' => e_TextValuesModel_alarm_36 ..⟩)⟩
    · rw [e1 g I J su sr sa PC PQ h, e_TextValues_alarm_27]; rfl
    · rw [e2 g I J hr, e_TextValuesModel_alarm_32]
  have hb4 := hw.2.1.2.2.1.2.2.1.2.2.2
  rcases ix_z x (n := zq T.2.2.2.1 117 42) (by omega) with ⟨v, hv, e, hb⟩ | ⟨hx, hb⟩
  · subst e
    have ec : ∀ (g : jG) (I : Nat → Nat → Int32) (J : Nat → Nat → Int64) su sr sa PC PQ, cI L T su sr sa PC PQ g I J → jcall 40 137 [.ref 1, .int (nI v), .int y] (jGs L g, I, J) = jif (y < 0) (jval 39 137 27 [.ref 1, jjunk, jjunk] [] (jGs L g, I, J)) (jif (y ≤ (2 : Int32)) (jo (g.2.2.1 1 2) (jcV (jcall 39 7 [.ref 39, .null] (jGs L g, I, J)) (fun S2 => jval 39 137 45 [.ref 1, .int (nI v), .int y] [] S2)) (fun b1 => jcV (jcall 39 7 [.ref 39, .ref b1] (jGs L g, I, J)) (fun S3 => jval 39 137 45 [.ref 1, .int (nI v), .int y] [] S3))) (jval 39 137 27 [.ref 1, jjunk, jjunk] [] (jGs L g, I, J))) := by
      intro g I J su sr sa PC PQ h
      obtain ⟨p, hp, e⟩ := c_pg h
      rw [c_TextValues_alarm, e_TextValues_alarm_0, jif_f (nI_pos (by omega)), e, c_alarmCount 38 L g hp, jcI_some, e_TextValues_alarm_15, jif_f (nI_ge (by omega) (by omega))]
    have er : ∀ (g : jG) (I : Nat → Nat → Int32) (J : Nat → Nat → Int64), rI T I → jcall 40 270 [.ref 117, .int (nI v), .int y] (jGs L g, I, J) = jval 39 270 20 [.ref 117, .int (nI v), .int y] [.int (bI (jb (0 ≤ y ∧ y ≤ nI (3 - 1))))] (jGs L g, I, J) := by
      intro g I J hr
      rw [c_TextValuesModel_alarm, e_TextValuesModel_alarm_0, s_in 38 L g I J, hr.2.2.1.1.1.2.2.1, hb, jcI_some, e_TextValuesModel_alarm_11, jif_f (by decide), s_in 38 L g I J, jcI_some]; rfl
    rcases ix_b y (n := 3) (by omega) (by omega) with ⟨w, hw3, e', hb'⟩ | ⟨hy, hb'⟩
    · subst e'
      obtain ⟨g1, I1, J1, sr1, PC1, PQ1, c1, c2, c3, c4, c5, c6⟩ := c_rfK h hw h1 h2 (fun S1 => jval 39 137 45 [.ref 1, .int (nI v), .int (nI w)] [] S1)
      refine ⟨.int (zAl T.2.2.2.1 v w), T, ⟨_, rfl⟩, hw, ⟨su, sr1, sa, PC1, PQ1, g1, I1, J1, c1, by omega, by omega, c4, ?_⟩, fun g I J hr => ?_⟩
      · rw [ec g I J su sr sa PC PQ h, jif_f (nI_pos (by omega)), jif_t (show nI w ≤ (2 : Int32) from nI_le (b := 2) (by omega) (by omega))]
        refine c6.trans ?_
        show jval 39 137 45 [.ref 1, .int (nI v), .int (nI w)] [] (jGs L g1, I1, J1) = _
        rw [e_TextValues_alarm_45, c_alarmed 37 L g1 c1 hw c5.2.1 hv hw3, jcI_some, e_TextValues_alarm_51]
      · obtain ⟨I', a1, a2, a3⟩ := r_alarmIs 24 L g (J := J) hr hw hv hw3
        refine ⟨I', J, a1, a2, ?_⟩
        rw [er g I J hr, hb', e_TextValuesModel_alarm_20, jif_f (by decide), a3, jcI_some, e_TextValuesModel_alarm_29, e_TextValuesModel_alarm_36]
    · refine bad (fun g I J su sr sa PC PQ h => ?_) (fun g I J hr => ?_)
      · rw [ec g I J su sr sa PC PQ h]
        rcases hy with hy | ⟨hy1, hy2⟩
        · rw [jif_t hy]
        · rw [jif_f hy1, jif_f (show ¬ y ≤ (2 : Int32) from fun e => nI_ge (a := 2) (b := 3) (by omega) (by omega) (Int32.le_trans hy2 e))]
      · rw [er g I J hr, hb', e_TextValuesModel_alarm_20, jif_t (by decide)]
  · refine bad (fun g I J su sr sa PC PQ h => ?_) (fun g I J hr => ?_)
    · rw [c_TextValues_alarm, e_TextValues_alarm_0]
      rcases hx with hx | ⟨hx1, hx2⟩
      · rw [jif_t hx]
      · obtain ⟨p, hp, e⟩ := c_pg h
        rw [jif_f hx1, e, c_alarmCount 38 L g hp, jcI_some, e_TextValues_alarm_15, jif_t hx2]
    · rw [c_TextValuesModel_alarm, e_TextValuesModel_alarm_0, s_in 38 L g I J, hr.2.2.1.1.1.2.2.1, hb, jcI_some, e_TextValuesModel_alarm_11, jif_t (by decide)]
theorem ok_raised (x y : Int32) : okV false 138 271 [.int x, .int y] := by
  intro L T su sr sa PC PQ g I J h hw h1 h2
  have bad : (∀ (g : jG) (I : Nat → Nat → Int32) (J : Nat → Nat → Int64) su sr sa PC PQ, cI L T su sr sa PC PQ g I J → jcall 40 138 [.ref 1, .int x, .int y] (jGs L g, I, J) = jval 39 138 22 [.ref 1, jjunk, jjunk] [] (jGs L g, I, J)) → (∀ (g : jG) (I : Nat → Nat → Int32) (J : Nat → Nat → Int64), rI T I → jcall 40 271 [.ref 117, .int x, .int y] (jGs L g, I, J) = jval 39 271 18 [.ref 117, jjunk, jjunk] [] (jGs L g, I, J)) → ∃ v T', (∃ x, v = Value.int x) ∧ zWf T' ∧ cRs L T' PC PQ I 138 [.int x, .int y] v (jGs L g, I, J) ∧ rRs L T T' 271 [.int x, .int y] v := by
    intro e1 e2
    refine ⟨.int (tAn 0), tRef T 0, ⟨_, rfl⟩, tRef_W hw, cBad (K := fun r2 S1 => jval 39 138 28 [jjunk, jjunk, jjunk] [.int r2] S1) h (by omega) ?_ (fun I' => e_TextValues_raised_28 ..), rBad hw (by omega) (fun g I J hr => ⟨fun r2 S1 => jval 39 271 22 [jjunk, jjunk, jjunk] [.int r2] S1, ?_, fun I' => e_TextValuesModel_raised_22 ..⟩)⟩
    · rw [e1 g I J su sr sa PC PQ h, e_TextValues_raised_22]; rfl
    · rw [e2 g I J hr, e_TextValuesModel_raised_18]
  have hb4 := hw.2.1.2.2.1.2.2.1.2.2.2
  rcases ix_z x (n := zq T.2.2.2.1 117 42) (by omega) with ⟨v, hv, e, hb⟩ | ⟨hx, hb⟩
  · subst e
    by_cases hy : y < 0
    · refine bad (fun g I J su sr sa PC PQ h => ?_) (fun g I J hr => ?_)
      · obtain ⟨p, hp, e⟩ := c_pg h
        rw [c_TextValues_raised, e_TextValues_raised_0, jif_f (nI_pos (by omega)), e, c_alarmCount 38 L g hp, jcI_some, e_TextValues_raised_15, jif_f (nI_ge (by omega) (by omega)), jif_f (Int32.not_le.mpr hy)]
      · rw [c_TextValuesModel_raised, e_TextValuesModel_raised_0, s_in 38 L g I J, hr.2.2.1.1.1.2.2.1, hb, jcI_some, e_TextValuesModel_raised_11, jif_f (by decide), jif_f (Int32.not_le.mpr hy)]
    · obtain ⟨i, hi, e''⟩ := nI_of hy
      subst e''
      obtain ⟨g1, I1, J1, sr1, PC1, PQ1, c1, c2, c3, c4, c5, c6⟩ := c_rfK h hw h1 h2 (fun S1 => jval 39 138 40 [.ref 1, .int (nI v), .int (nI i)] [] S1)
      have ec : jcall 40 138 [.ref 1, .int (nI v), .int (nI i)] (jGs L g, I, J) = jif (I1 49 v ≤ nI i) (jval 39 138 68 [jjunk, jjunk, jjunk] [.int (-1 : Int32)] (jGs L g1, I1, J1)) (jcI (jcall 39 6 [.ref 39, .int (nI v), .int (nI i)] (jGs L g1, I1, J1)) (fun r2 S1 => jval 39 138 63 [jjunk, jjunk, jjunk] [.int r2, .int (97 : Int32)] S1)) := by
        obtain ⟨p, hp, e⟩ := c_pg h
        rw [c_TextValues_raised, e_TextValues_raised_0, jif_f (nI_pos (by omega)), e, c_alarmCount 38 L g hp, jcI_some, e_TextValues_raised_15, jif_f (nI_ge (by omega) (by omega)), jif_t (nI_pos' (by omega))]
        refine c6.trans ?_
        show jval 39 138 40 [.ref 1, .int (nI v), .int (nI i)] [] (jGs L g1, I1, J1) = _
        rw [e_TextValues_raised_40, c_raisedLength 38 L g1 (by omega), jcI_some, e_TextValues_raised_49]
      have er : ∀ g I J, rI T I → ∃ I', rI T I' ∧ oR I I' J J ∧ rRa I' v ((zR T.2.2.2.1).2.2.2 v) ∧ jcall 40 271 [.ref 117, .int (nI v), .int (nI i)] (jGs L g, I, J) = jif (I' 153 v ≤ nI i) (jval 39 271 55 [jjunk, jjunk, jjunk] [.int (-1 : Int32)] (jGs L g, I', J)) (cond (jin ((100 : Int32) * nI v + nI i) 4000) (jval 39 271 55 [jjunk, jjunk, jjunk] [.int ((97 : Int32) + I' 154 ((100 : Int32) * nI v + nI i).toNatClampNeg)] (jGs L g, I', J)) none) := by
        intro g I J hr
        obtain ⟨I', a1, a2, a3, a4⟩ := r_ft 25 L g (J := J) hr hw
        refine ⟨I', a1, a2, a3.2.2.2.2.2 v hv, ?_⟩
        rw [c_TextValuesModel_raised, e_TextValuesModel_raised_0, s_in 38 L g I J, hr.2.2.1.1.1.2.2.1, hb, jcI_some, e_TextValuesModel_raised_11, jif_f (by decide), jif_t (nI_pos' (by omega)), a4, jcV_some, e_TextValuesModel_raised_27, jin_nI (by omega) (by omega), cond_true, nI_c (n := v) (by omega)]
      have ca := c5.2.1.2.2.2 v hv
      have eC : PC1 ≤ PC + 200 ∧ PQ1 ≤ PQ + 6000 := by omega
      cases ho : (zR T.2.2.2.1).2.2.2 v with
      | none =>
        have ea := (cRa_l ca).1
        rw [ho] at ea
        refine ⟨.int (-1), T, ⟨_, rfl⟩, hw, ⟨su, sr1, sa, PC1, PQ1, g1, I1, J1, c1, eC.1, eC.2, c4, ?_⟩, fun g I J hr => ?_⟩
        · rw [ec, ea, jif_t (show aL none ≤ nI i from Int32.le_trans (show (-1 : Int32) ≤ 0 by decide) (nI_pos' (n := i) (by omega))), e_TextValues_raised_68]
        · obtain ⟨I', a1, a2, a3, a4⟩ := er g I J hr
          have ea' := (rRa_l a3).1
          rw [ho] at ea'
          refine ⟨I', J, a1, a2, ?_⟩
          rw [a4, ea', jif_t (show aL none ≤ nI i from Int32.le_trans (show (-1 : Int32) ≤ 0 by decide) (nI_pos' (n := i) (by omega))), e_TextValuesModel_raised_55]
      | some t =>
        have ea := (cRa_l ca).1
        have hl := (cRa_l ca).2 t ho
        rw [ho] at ea ca
        have ea2 : I1 49 v = nI t.length := ea
        by_cases hi2 : t.length ≤ i
        · refine ⟨.int (-1), T, ⟨_, rfl⟩, hw, ⟨su, sr1, sa, PC1, PQ1, g1, I1, J1, c1, eC.1, eC.2, c4, ?_⟩, fun g I J hr => ?_⟩
          · rw [ec, ea2, jif_t (nI_le (by omega) (by omega)), e_TextValues_raised_68]
          · obtain ⟨I', a1, a2, a3, a4⟩ := er g I J hr
            have ea' := (rRa_l a3).1
            rw [ho] at ea'
            have ea3 : I' 153 v = nI t.length := ea'
            refine ⟨I', J, a1, a2, ?_⟩
            rw [a4, ea3, jif_t (nI_le (by omega) (by omega)), e_TextValuesModel_raised_55]
        · obtain ⟨⟨-, -⟩, m3, m4, m5, m6, m7, m8⟩ := c1.2.2.1
          have hN := c5.2.2
          refine ⟨.int ((97 : Int32) + nI (t.getD i 0)), T, ⟨_, rfl⟩, hw, ⟨su, sr1, sa, PC1, PQ1, g1, I1, J1, c1, eC.1, eC.2, c4, ?_⟩, fun g I J hr => ?_⟩
          · rcases ca with ⟨e1, e2⟩ | ⟨w, e1, e2, e3, e4, e5⟩
            · cases e1
            · cases e1
              rw [ec, ea2, jif_f (nI_ge (by omega) (by omega)), c_raisedLetter 38 L g1 m3 m5 m8 (by omega), e5 i (by omega), jcI_some, e_TextValues_raised_63, e_TextValues_raised_68]
          · obtain ⟨I', a1, a2, a3, a4⟩ := er g I J hr
            rw [ho] at a3
            rcases a3 with ⟨e1, e2⟩ | ⟨w, e1, e2, e3, e4, e5⟩
            · cases e1
            · cases e1
              refine ⟨I', J, a1, a2, ?_⟩
              rw [a4, e4, jif_f (nI_ge (by omega) (by omega)), show (100 : Int32) * nI v + nI i = nI (100 * v + i) from by rw [show (100 : Int32) * nI v = nI (100 * v) from nI_mul 100 v, nI_add], jin_nI (by omega) (by omega), cond_true, nI_c (by omega), e5 i (by omega), e_TextValuesModel_raised_55]
  · refine bad (fun g I J su sr sa PC PQ h => ?_) (fun g I J hr => ?_)
    · rw [c_TextValues_raised, e_TextValues_raised_0]
      rcases hx with hx | ⟨hx1, hx2⟩
      · rw [jif_t hx]
      · obtain ⟨p, hp, e⟩ := c_pg h
        rw [jif_f hx1, e, c_alarmCount 38 L g hp, jcI_some, e_TextValues_raised_15, jif_t hx2]
    · rw [c_TextValuesModel_raised, e_TextValuesModel_raised_0, s_in 38 L g I J, hr.2.2.1.1.1.2.2.1, hb, jcI_some, e_TextValuesModel_raised_11, jif_t (by decide)]

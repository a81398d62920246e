/-! TOP: ran, alarm, raised, within -/
set_option maxRecDepth 100000
theorem c_keptLength (d L : Nat) (g : jG) {I : Nat → Nat → Int32} {J : Nat → Nat → Int64} {j : Nat} (hj : j < 4) : jcall (d + 1) 84 [.ref 111, .int (nI j)] (jGs L g, I, J) = some (some (.int (I 116 j)), (jGs L g, I, J)) := by
  rw [c_Runner_keptLength, e_Runner_keptLength_0, jif_f (nI_pos (by omega)), jif_f (show ¬ (4 : Int32) ≤ nI j from nI_ge (b := 4) (by omega) (by omega)), jin_nI (by omega) (by omega), cond_true, nI_c (by omega), e_Runner_keptLength_19]
theorem c_keptLetter (d L : Nat) (g : jG) {I : Nat → Nat → Int32} {J : Nat → Nat → Int64} {j i : Nat} (hj : 40 * j + i < 160) : jcall (d + 1) 85 [.ref 111, .int (nI j), .int (nI i)] (jGs L g, I, J) = some (some (.int (I 115 (40 * j + i))), (jGs L g, I, J)) := by
  have e : nI j * (40 : Int32) + nI i = nI (40 * j + i) := by
    rw [show nI j * (40 : Int32) = nI (j * 40) from nI_mul j 40, nI_add, Nat.mul_comm]
  rw [c_Runner_keptLetter, e_Runner_keptLetter_0, e, jif_f (nI_pos (by omega)), jif_f (show ¬ Int32.ofNat 160 ≤ nI (40 * j + i) from nI_ge (b := 160) (by omega) (by omega)), jin_nI (by omega) (by omega), cond_true, nI_c (by omega), e_Runner_keptLetter_30]
theorem ok_ran (x y : Int32) : okV false 141 240 [.int x, .int y] := by
  intro L T su sr sa PC PQ g I J h hw h1 h2
  have bad : (∀ (g : jG) (I : Nat → Nat → Int32) (J : Nat → Nat → Int64), jcall 40 141 [.ref 1, .int x, .int y] (jGs L g, I, J) = jval 39 141 13 [.ref 1, jjunk, jjunk] [] (jGs L g, I, J)) → (∀ (g : jG) (I : Nat → Nat → Int32) (J : Nat → Nat → Int64), jcall 40 240 [.ref 117, .int x, .int y] (jGs L g, I, J) = jval 39 240 13 [.ref 117, jjunk, jjunk] [] (jGs L g, I, J)) → ∃ v T', (∃ x, v = Value.int x) ∧ zWf T' ∧ cRs L T' PC PQ I 141 [.int x, .int y] v (jGs L g, I, J) ∧ rRs L T T' 240 [.int x, .int y] v := by
    intro e1 e2
    refine ⟨.int (tAn 0), tRef T 0, ⟨_, rfl⟩, tRef_W hw, cBad (K := fun r2 S1 => jval 39 141 19 [jjunk, jjunk, jjunk] [.int r2] S1) h (by omega) ?_ (fun I' => e_TextValues_ran_19 ..), rBad hw (by omega) (fun g I J hr => ⟨fun r2 S1 => jval 39 240 17 [jjunk, jjunk, jjunk] [.int r2] S1, ?_, fun I' => e_TextValuesModel_ran_17 ..⟩)⟩
    · rw [e1, e_TextValues_ran_13]; rfl
    · rw [e2, e_TextValuesModel_ran_13]
  rcases ix_b x (n := 4) (by omega) (by omega) with ⟨v, hv, e, hb⟩ | ⟨hx, hb⟩
  · subst e
    by_cases hy : y < 0
    · refine bad (fun g I J => ?_) (fun g I J => ?_)
      · rw [c_TextValues_ran, e_TextValues_ran_0, jif_f (nI_pos (by omega)), jif_f (show ¬ (4 : Int32) ≤ nI v from nI_ge (b := 4) (by omega) (by omega)), jif_f (Int32.not_le.mpr hy)]
      · rw [c_TextValuesModel_ran, e_TextValuesModel_ran_0, s_in 38 L g I J, show (3 : Int32) = nI (4 - 1) from rfl, hb, jcI_some, e_TextValuesModel_ran_6, jif_f (by decide), jif_f (Int32.not_le.mpr hy)]
    · obtain ⟨i, hi, e''⟩ := nI_of hy
      subst e''
      obtain ⟨u1, u2, u3, u4⟩ := h.2.2.2.2.2.1 v hv
      have ec : jcall 40 141 [.ref 1, .int (nI v), .int (nI i)] (jGs L g, I, J) = jif (nI (T.2.2.2.2.2.2.1 v).length ≤ nI i) (jval 39 141 48 [jjunk, jjunk, jjunk] [.int (-1 : Int32)] (jGs L g, I, J)) (jcI (jcall 39 85 [.ref 111, .int (nI v), .int (nI i)] (jGs L g, I, J)) (fun r2 S1 => jval 39 141 43 [jjunk, jjunk, jjunk] [.int r2, .int (97 : Int32)] S1)) := by
        rw [c_TextValues_ran, e_TextValues_ran_0, jif_f (nI_pos (by omega)), jif_f (show ¬ (4 : Int32) ≤ nI v from nI_ge (b := 4) (by omega) (by omega)), jif_t (nI_pos' (by omega)), c_keptLength 38 L g hv, u3, jcI_some, e_TextValues_ran_29]
      have er : ∀ g I J, rI T I → jcall 40 240 [.ref 117, .int (nI v), .int (nI i)] (jGs L g, I, J) = jif (nI (T.2.2.2.2.2.2.1 v).length ≤ nI i) (jval 39 240 46 [jjunk, jjunk, jjunk] [.int (-1 : Int32)] (jGs L g, I, J)) (cond (jin ((40 : Int32) * nI v + nI i) 160) (jval 39 240 46 [jjunk, jjunk, jjunk] [.int ((97 : Int32) + I 158 ((40 : Int32) * nI v + nI i).toNatClampNeg)] (jGs L g, I, J)) none) := by
        intro g I J hr
        obtain ⟨-, -, w3, -⟩ := hr.2.2.2.2.2.2.1 v hv
        rw [c_TextValuesModel_ran, e_TextValuesModel_ran_0, s_in 38 L g I J, show (3 : Int32) = nI (4 - 1) from rfl, hb, jcI_some, e_TextValuesModel_ran_6, jif_f (by decide), jif_t (nI_pos' (by omega)), jin_nI (by omega) (by omega), cond_true, nI_c (by omega), w3]
      by_cases hl : (T.2.2.2.2.2.2.1 v).length ≤ i
      · refine ⟨.int (-1), T, ⟨_, rfl⟩, hw, ⟨su, sr, sa, PC, PQ, g, I, J, h, by omega, by omega, oC_r I, ?_⟩, fun g I J hr => ⟨I, J, hr, oR_r I J, ?_⟩⟩
        · rw [ec, jif_t (nI_le (by omega) (by omega)), e_TextValues_ran_48]
        · rw [er g I J hr, jif_t (nI_le (by omega) (by omega)), e_TextValuesModel_ran_46]
      · refine ⟨.int ((97 : Int32) + nI ((T.2.2.2.2.2.2.1 v).getD i 0)), T, ⟨_, rfl⟩, hw, ⟨su, sr, sa, PC, PQ, g, I, J, h, by omega, by omega, oC_r I, ?_⟩, fun g I J hr => ⟨I, J, hr, oR_r I J, ?_⟩⟩
        · rw [ec, jif_f (nI_ge (by omega) (by omega)), c_keptLetter 38 L g (by omega), u4 i (by omega), jcI_some, e_TextValues_ran_43, e_TextValues_ran_48]
        · obtain ⟨-, -, -, w4⟩ := hr.2.2.2.2.2.2.1 v hv
          rw [er g I J hr, jif_f (nI_ge (by omega) (by omega)), show (40 : Int32) * nI v + nI i = nI (40 * v + i) from by rw [show (40 : Int32) * nI v = nI (40 * v) from nI_mul 40 v, nI_add], jin_nI (by omega) (by omega), cond_true, nI_c (by omega), w4 i (by omega), e_TextValuesModel_ran_46]
  · refine bad (fun g I J => ?_) (fun g I J => ?_)
    · rw [c_TextValues_ran, e_TextValues_ran_0]
      rcases hx with hx | ⟨hx1, hx2⟩
      · rw [jif_t hx]
      · rw [jif_f hx1, jif_t (show (4 : Int32) ≤ x from hx2)]
    · rw [c_TextValuesModel_ran, e_TextValuesModel_ran_0, s_in 38 L g I J, show (3 : Int32) = nI (4 - 1) from rfl, hb, jcI_some, e_TextValuesModel_ran_6, jif_t (by decide)]
/-- what is told of an alarm -/
def aL (o : Option (List Nat)) : Int32 := match o with
  | none => -1
  | some w => nI w.length
noncomputable def zAl (z : zS) (j w : Nat) : Int32 := if w = 0 then bI ((zR z).2.2.2 j).isSome else if w = 1 then nI (zq z 143 j) else aL ((zR z).2.2.2 j)
theorem zAl_0 (z : zS) (j : Nat) : zAl z j 0 = bI ((zR z).2.2.2 j).isSome := by unfold zAl; rw [if_pos rfl]
theorem zAl_1 (z : zS) (j : Nat) : zAl z j 1 = nI (zq z 143 j) := by unfold zAl; rw [if_neg (by decide), if_pos rfl]
theorem zAl_2 (z : zS) (j : Nat) : zAl z j 2 = aL ((zR z).2.2.2 j) := by unfold zAl; rw [if_neg (by decide), if_neg (by decide)]
theorem cRa_l {sr j : Nat} {I : Nat → Nat → Int32} {o : Option (List Nat)} (h : cRa sr I j o) : I 49 j = aL o ∧ (∀ w, o = some w → w.length < 100) := by
  rcases h with ⟨e1, e2⟩ | ⟨w, e1, e2, e3, e4, e5⟩
  · rw [e1]; exact ⟨e2, fun _ e => by cases e⟩
  · rw [e1]; exact ⟨e4, fun _ e => by cases e; exact e2⟩
theorem rRa_l {j : Nat} {I : Nat → Nat → Int32} {o : Option (List Nat)} (h : rRa I j o) : I 153 j = aL o ∧ (∀ w, o = some w → w.length < 100) := by
  rcases h with ⟨e1, e2⟩ | ⟨w, e1, e2, e3, e4, e5⟩
  · rw [e1]; exact ⟨e2, fun _ e => by cases e⟩
  · rw [e1]; exact ⟨e4, fun _ e => by cases e; exact e2⟩
theorem c_alarmPlace (d L : Nat) (g : jG) {q : Nat → Nat → Nat} {I : Nat → Nat → Int32} {J : Nat → Nat → Int64} {p F B j : Nat} (h : pg L q g I p F B) (hj : j < q 117 42) (hq : q 117 42 < 100000) : jcall (d + 1) 62 [.ref p, .int (nI j)] (jGs L g, I, J) = some (some (.int (nI (q 143 j))), (jGs L g, I, J)) := by
  obtain ⟨h1, h2, h3, h4, h5, ⟨ar, a1, a2, a3, a4, a5, a6⟩, h7⟩ := h
  have a5' : (jGs L g).2.1 ar = q 117 42 := a5
  have a4' : (jGs L g).1 ar = 15 := a4
  rw [c_Program_alarmPlace, e_Program_alarmPlace_0, jif_f (nI_pos (by omega)), if_pos (show (jGs L g).1 p = 6 from h3), show (jGs L g).2.2.1 p 3 = some ar from a1, jo_some, if_pos (by rw [a4']; omega), a5', jif_f (show ¬ Int32.ofNat (q 117 42) ≤ nI j from nI_ge (by omega) (by omega)), if_pos (show (jGs L g).1 p = 6 from h3), jo_some, if_pos (Or.inl a4'), a5', jin_nI (by omega) (by omega), cond_true, nI_c (by omega), a6 j hj, e_Program_alarmPlace_23]
theorem c_alarmed (d L : Nat) (g : jG) {T : zT} {su sr : Nat} {sa : Nat → Nat} {PC PQ j w : Nat} {I : Nat → Nat → Int32} {J : Nat → Nat → Int64} (h : cI L T su sr sa PC PQ g I J) (hW : zWf T) (hg : cG (zq T.2.2.2.1) (zR T.2.2.2.1).2 sr I) (hj : j < zq T.2.2.2.1 117 42) (hw : w < 3) : jcall (d + 2) 152 [.ref 1, .int (nI j), .int (nI w)] (jGs L g, I, J) = some (some (.int (zAl T.2.2.2.1 j w)), (jGs L g, I, J)) := by
  obtain ⟨p, hp, ep⟩ := c_pg h
  obtain ⟨l1, l2⟩ := cRa_l (hg.2.2.2 j hj)
  have hb := hW.2.1.2.2.1.2.2.1.2.2.2
  rw [c_TextValues_alarmed, e_TextValues_alarmed_0]
  have hc : w = 0 ∨ w = 1 ∨ w = 2 := by omega
  rcases hc with e | e | e <;> subst e
  · rw [jif_t (by decide), e_TextValues_alarmed_28, c_raisedLength d L g (by omega), jcI_some, e_TextValues_alarmed_36, l1, zAl_0]
    cases ho : (zR T.2.2.2.1).2.2.2 j with
    | none => rw [jif_t (show aL none < 0 by decide), e_TextValues_alarmed_44]; rfl
    | some w => rw [show aL (some w) = nI w.length from rfl, jif_f (show ¬ nI w.length < 0 from nI_pos (by have := l2 w ho; omega)), e_TextValues_alarmed_44]; rfl
  · rw [jif_f (by decide), jif_t (by decide), e_TextValues_alarmed_45, ep, c_alarmPlace d L g hp hj (by omega), jcI_some, e_TextValues_alarmed_56, zAl_1]
  · rw [jif_f (by decide), jif_f (by decide), e_TextValues_alarmed_57, c_raisedLength d L g (by omega), jcI_some, e_TextValues_alarmed_65, l1, zAl_2]
theorem r_alarmIs (d L : Nat) (g : jG) {T : zT} {j w : Nat} {I : Nat → Nat → Int32} {J : Nat → Nat → Int64} (h : rI T I) (hw : zWf T) (hj : j < zq T.2.2.2.1 117 42) (hw3 : w < 3) : ∃ I', rI T I' ∧ oR I I' J J ∧ jcall (d + 15) 269 [.ref 117, .int (nI j), .int (nI w)] (jGs L g, I, J) = some (some (.int (zAl T.2.2.2.1 j w)), (jGs L g, I', J)) := by
  obtain ⟨I', a1, a2, a3, a4⟩ := r_ft d L g (J := J) h hw
  have hb := hw.2.1.2.2.1.2.2.1.2.2.2
  obtain ⟨l1, l2⟩ := rRa_l (a3.2.2.2.2.2 j hj)
  refine ⟨I', a1, a2, ?_⟩
  rw [c_TextValuesModel_alarmIs, e_TextValuesModel_alarmIs_0, a4, jcV_some, e_TextValuesModel_alarmIs_4, jin_nI (N := 40) (by omega) (by omega), cond_true, cond_true, cond_true, nI_c (by omega), l1]
  have hc : w = 0 ∨ w = 1 ∨ w = 2 := by omega
  rcases hc with e | e | e <;> subst e
  · rw [jif_t (by decide), zAl_0]
    cases ho : (zR T.2.2.2.1).2.2.2 j with
    | none => rw [jif_t (show aL none = -1 from rfl), e_TextValuesModel_alarmIs_46]; rfl
    | some w => rw [show aL (some w) = nI w.length from rfl, jif_f (show ¬ nI w.length = -1 from fun e => absurd (nI_pos' (n := w.length) (by have := l2 w ho; omega)) (by rw [e]; decide)), e_TextValuesModel_alarmIs_46]; rfl
  · rw [jif_f (by decide), jif_t (by decide), e_TextValuesModel_alarmIs_46, a1.2.2.1.1.2.2.1 j hj, zAl_1]
  · rw [jif_f (by decide), jif_f (by decide), e_TextValuesModel_alarmIs_46, zAl_2]

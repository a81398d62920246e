/-! THE CLASS: both, less -/
set_option maxRecDepth 100000
theorem mkI_no {L g I PC PQ} (h : mkI L g I PC PQ) {a : Nat} (ha : gK L g a = 2) : ¬ mkO g a := by
  obtain ⟨kr, rr, sr, gr, fr, c, base, N, z1, -⟩ := h
  exact mkO_2 z1 ha
/-- a cell behind an operation -/
theorem fX_R {L g g' I I' J J' out a A PC PQ} (hf : fX L g g' I I' J J' out) (hI : mkI L g I PC PQ) (hA : cR L g I J a A) (haC : a ≤ g.2.2.2.1) (ho : a = out → I' out = I out ∧ J' out = J out) : cR L g' I' J' a A := by
  have h1 := hf.1 a haC (mkI_no hI hA.1)
  by_cases h : a = out
  · have h2 := ho h
    exact cR_cg L g hA (hf.2.1 a haC).1 (by rw [h]; exact h2.1) (by rw [h]; exact h2.2)
  · exact cR_cg L g hA (hf.2.1 a haC).1 (h1.1 h).1 (h1.1 h).2
section CC
variable (d L : Nat) (g : jG)
theorem eE_P {A B : kA} (hV : kV A) (hW : kV B) : nI (kEm A.2.1 A.1) ||| (nI (kEm B.2.1 B.1) <<< (nI A.1 &&& 31)) = nI (eP A B) := by
  have hA10 := hV.2.1
  have hB10 := kEm_lt10 hW
  have hpw : 2 ^ A.1 ≤ 2 ^ 10 := Nat.pow_le_pow_right (by omega) hA10
  have hmul : kEm B.2.1 B.1 * 2 ^ A.1 ≤ 1023 * 2 ^ 10 := Nat.mul_le_mul (by omega) hpw
  rw [show (nI (kEm B.2.1 B.1) <<< (nI A.1 &&& 31)) = nI (kEm B.2.1 B.1 * 2 ^ A.1) from zi_shl (by omega) (by omega), zi_or]
  rfl
theorem eK_P {A : kA} (hV : kV A) : (1 : Int32) ||| ((1 : Int32) <<< (nI A.1 &&& 31)) = nI (1 ||| 2 ^ A.1) := by
  have hA10 := hV.2.1
  rw [show ((1 : Int32) <<< (nI A.1 &&& 31)) = nI (2 ^ A.1) from nI_pow _ (by omega), show (1 : Int32) = nI 1 from rfl, zi_or]
theorem c_both {I : Nat → Nat → Int32} {J : Nat → Nat → Int64} {PC PQ a b out : Nat} {A B : kA} (hI : mkI L g I PC PQ) (hA : cR L g I J a A) (hB : cR L g I J b B) (haC : a ≤ g.2.2.2.1) (ho : gK L g out = 2) (hoC : out ≤ g.2.2.2.1) : ∃ g' I' J', mkI L g' I' PC PQ ∧ fX L g g' I I' J J' out ∧ cR L g' I' J' out (vPair 1 A B) ∧ jcall (d + 3) 31 [.ref 19, .ref a, .ref b, .ref out] (jGs L g, I, J) = some (none, (jGs L g', I', J')) := by
  have hV := hA.2.1
  have hW := hB.2.1
  have k1 : (jGs L g).1 a = 2 := hA.1
  have k2 : (jGs L g).1 b = 2 := hB.1
  have k3 : (jGs L g).1 out = 2 := ho
  have set1 : ∀ (C : kA) (c : Nat), cR L g I J c C → vPair 1 A B = C → ∃ I' J', mkI L g I' PC PQ ∧ fX L g g I I' J J' out ∧ cR L g I' J' out (vPair 1 A B) ∧ jcall (d + 2) 20 [.ref out, .ref c] (jGs L g, I, J) = some (none, (jGs L g, I', J')) := fun C c hc he => by
    obtain ⟨I', J', q1, q2, q3⟩ := c_set (d + 1) L g ho hc
    exact ⟨I', J', mkI_out L g hI ho (fun x hx => (q1 x hx).1), fX_one q1, by rw [he]; exact q2, q3⟩
  by_cases h1 : A = B
  · obtain ⟨I', J', q1, q2, q3, q4⟩ := set1 A a hA (vPair_val hV (fun w _ => by rw [← h1, mHow_1, Bool.and_self]))
    refine ⟨g, I', J', q1, q2, q3, ?_⟩
    rw [c_Maker_both, e_Maker_both_0, if_pos k1, c_isSame (d + 1) L g hA hB, jb_t.mpr h1, jcI_some, e_Maker_both_5, jif_f (by decide), e_Maker_both_22, if_pos k3, q4, jcV_some, e_Maker_both_27, e_Maker_both_98]
  · by_cases h2 : B = kAll
    · obtain ⟨I', J', q1, q2, q3, q4⟩ := set1 A a hA (vPair_val hV (fun w _ => by rw [h2, mHow_1, kL_all, Bool.and_true]))
      refine ⟨g, I', J', q1, q2, q3, ?_⟩
      rw [c_Maker_both, e_Maker_both_0, if_pos k1, c_isSame (d + 1) L g hA hB, jb_f.mpr h1, jcI_some, e_Maker_both_5, jif_t (by decide), if_pos k2, c_isAll (d + 1) L g hB, jb_t.mpr h2, jcI_some, e_Maker_both_12, jif_f (by decide), e_Maker_both_22, if_pos k3, q4, jcV_some, e_Maker_both_27, e_Maker_both_98]
    · by_cases h3 : A = kNo
      · obtain ⟨I', J', q1, q2, q3, q4⟩ := set1 A a hA (vPair_val hV (fun w _ => by rw [h3, mHow_1, kL_no, Bool.false_and]))
        refine ⟨g, I', J', q1, q2, q3, ?_⟩
        rw [c_Maker_both, e_Maker_both_0, if_pos k1, c_isSame (d + 1) L g hA hB, jb_f.mpr h1, jcI_some, e_Maker_both_5, jif_t (by decide), if_pos k2, c_isAll (d + 1) L g hB, jb_f.mpr h2, jcI_some, e_Maker_both_12, jif_t (by decide), if_pos k1, c_isNothing (d + 1) L g hA, jb_t.mpr h3, jcI_some, e_Maker_both_19, jif_f (by decide), e_Maker_both_22, if_pos k3, q4, jcV_some, e_Maker_both_27, e_Maker_both_98]
      · have e19 : jcall (d + 3) 31 [.ref 19, .ref a, .ref b, .ref out] (jGs L g, I, J) = jcI (jcall (d + 2) 24 [.ref a] (jGs L g, I, J)) (fun r2 S1 => jval (d + 2) 31 34 [.ref 19, .ref a, .ref b, .ref out] [.int r2] S1) := by
          rw [c_Maker_both, e_Maker_both_0, if_pos k1, c_isSame (d + 1) L g hA hB, jb_f.mpr h1, jcI_some, e_Maker_both_5, jif_t (by decide), if_pos k2, c_isAll (d + 1) L g hB, jb_f.mpr h2, jcI_some, e_Maker_both_12, jif_t (by decide), if_pos k1, c_isNothing (d + 1) L g hA, jb_f.mpr h3, jcI_some, e_Maker_both_19, jif_t (by decide), if_pos k1]
        by_cases h4 : A = kAll
        · obtain ⟨I', J', q1, q2, q3, q4⟩ := set1 B b hB (vPair_val hW (fun w _ => by rw [h4, mHow_1, kL_all, Bool.true_and]))
          refine ⟨g, I', J', q1, q2, q3, ?_⟩
          rw [e19, c_isAll (d + 1) L g hA, jb_t.mpr h4, jcI_some, e_Maker_both_34, jif_f (by decide), e_Maker_both_44, if_pos k3, q4, jcV_some, e_Maker_both_49, e_Maker_both_98]
        · by_cases h5 : B = kNo
          · obtain ⟨I', J', q1, q2, q3, q4⟩ := set1 B b hB (vPair_val hW (fun w _ => by rw [h5, mHow_1, kL_no, Bool.and_false]))
            refine ⟨g, I', J', q1, q2, q3, ?_⟩
            rw [e19, c_isAll (d + 1) L g hA, jb_f.mpr h4, jcI_some, e_Maker_both_34, jif_t (by decide), if_pos k2, c_isNothing (d + 1) L g hB, jb_t.mpr h5, jcI_some, e_Maker_both_41, jif_f (by decide), e_Maker_both_44, if_pos k3, q4, jcV_some, e_Maker_both_49, e_Maker_both_98]
          · obtain ⟨I1, J1, J2, g', I', J', p1, p2, p3, p4, p5, p6, p7, p8⟩ := c_pairs3 d L g (m := 1) (by omega) hI hA hB ho hoC
            have e59 : jcall (d + 3) 31 [.ref 19, .ref a, .ref b, .ref out] (jGs L g, I, J) = jcI (jcall (d + 2) 42 [.ref 19, .int (nI (1 ||| 2 ^ A.1)), .ref out] (jGs L g, I1, J2)) (fun r2 S1 => jval (d + 2) 31 90 [jjunk, .ref a, jjunk, .ref out] [.int r2] S1) := by
              rw [e19, c_isAll (d + 1) L g hA, jb_f.mpr h4, jcI_some, e_Maker_both_34, jif_t (by decide), if_pos k2, c_isNothing (d + 1) L g hB, jb_f.mpr h5, jcI_some, e_Maker_both_41, jif_t (by decide), show (1 : Int32) = nI 1 from rfl, p1, jcV_some, e_Maker_both_59, if_pos k1, if_pos k2, p2, p3, p4, eE_P hV hW, p5, jcV_some, e_Maker_both_77, p2, eK_P hV]
            rw [e59]
            have ho' : gK L g' out = 2 := by rw [(p7.2.1 out hoC).1]; exact ho
            have k3' : (jGs L g').1 out = 2 := ho'
            rcases p8 with ⟨V, v1, v2, v3⟩ | ⟨v1, v2, v3⟩
            · refine ⟨g', I', J', p6, p7, ?_, ?_⟩
              · unfold vPair; rw [v1, Option.getD_some]; exact v2
              · rw [v3, jcI_some, e_Maker_both_90, jif_f (by decide), e_Maker_both_98]
            · obtain ⟨I2, J3, q1, q2, q3⟩ := c_set (d + 1) L g' ho' (fX_R p7 hI hA haC (fun _ => v2))
              refine ⟨g', I2, J3, mkI_out L g' p6 ho' (fun x hx => (q1 x hx).1), fX_trans p7 (fX_one q1), ?_, ?_⟩
              · unfold vPair; rw [v1]; exact q2
              · rw [v3, jcI_some, e_Maker_both_90, jif_t (by decide), if_pos k3', q3, jcV_some, e_Maker_both_98]
theorem c_less {I : Nat → Nat → Int32} {J : Nat → Nat → Int64} {PC PQ a b out : Nat} {A B : kA} (hI : mkI L g I PC PQ) (hA : cR L g I J a A) (hB : cR L g I J b B) (haC : a ≤ g.2.2.2.1) (ho : gK L g out = 2) (hoC : out ≤ g.2.2.2.1) : ∃ g' I' J', mkI L g' I' PC PQ ∧ fX L g g' I I' J J' out ∧ cR L g' I' J' out (vPair 2 A B) ∧ jcall (d + 3) 32 [.ref 19, .ref a, .ref b, .ref out] (jGs L g, I, J) = some (none, (jGs L g', I', J')) := by
  have hV := hA.2.1
  have hW := hB.2.1
  have k1 : (jGs L g).1 a = 2 := hA.1
  have k2 : (jGs L g).1 b = 2 := hB.1
  have k3 : (jGs L g).1 out = 2 := ho
  have nothing : vPair 2 A B = kNo → ∃ I' J', mkI L g I' PC PQ ∧ fX L g g I I' J J' out ∧ cR L g I' J' out (vPair 2 A B) ∧ jcall (d + 2) 18 [.ref out] (jGs L g, I, J) = some (none, (jGs L g, I', J')) := fun he => by
    obtain ⟨I', J', q1, q2, q3⟩ := c_makeNothing d L g (I := I) (J := J) ho
    exact ⟨I', J', mkI_out L g hI ho (fun x hx => (q1 x hx).1), fX_one q1, by rw [he]; exact q2, q3⟩
  have set1 : vPair 2 A B = A → ∃ I' J', mkI L g I' PC PQ ∧ fX L g g I I' J J' out ∧ cR L g I' J' out (vPair 2 A B) ∧ jcall (d + 2) 20 [.ref out, .ref a] (jGs L g, I, J) = some (none, (jGs L g, I', J')) := fun he => by
    obtain ⟨I', J', q1, q2, q3⟩ := c_set (d + 1) L g ho hA
    exact ⟨I', J', mkI_out L g hI ho (fun x hx => (q1 x hx).1), fX_one q1, by rw [he]; exact q2, q3⟩
  by_cases h1 : A = B
  · obtain ⟨I', J', q1, q2, q3, q4⟩ := nothing (vPair_val kNo_V (fun w _ => by rw [← h1, mHow_2, Bool.and_not_self, kL_no]))
    refine ⟨g, I', J', q1, q2, q3, ?_⟩
    rw [c_Maker_less, e_Maker_less_0, if_pos k1, c_isSame (d + 1) L g hA hB, jb_t.mpr h1, jcI_some, e_Maker_less_5, jif_f (by decide), e_Maker_less_15, if_pos k3, q4, jcV_some, e_Maker_less_19, e_Maker_less_90]
  · by_cases h2 : B = kAll
    · obtain ⟨I', J', q1, q2, q3, q4⟩ := nothing (vPair_val kNo_V (fun w _ => by rw [h2, mHow_2, kL_all, Bool.not_true, Bool.and_false, kL_no]))
      refine ⟨g, I', J', q1, q2, q3, ?_⟩
      rw [c_Maker_less, e_Maker_less_0, if_pos k1, c_isSame (d + 1) L g hA hB, jb_f.mpr h1, jcI_some, e_Maker_less_5, jif_t (by decide), if_pos k2, c_isAll (d + 1) L g hB, jb_t.mpr h2, jcI_some, e_Maker_less_12, jif_f (by decide), e_Maker_less_15, if_pos k3, q4, jcV_some, e_Maker_less_19, e_Maker_less_90]
    · have e12 : jcall (d + 3) 32 [.ref 19, .ref a, .ref b, .ref out] (jGs L g, I, J) = jcI (jcall (d + 2) 25 [.ref a] (jGs L g, I, J)) (fun r2 S1 => jval (d + 2) 32 26 [.ref 19, .ref a, .ref b, .ref out] [.int r2] S1) := by
        rw [c_Maker_less, e_Maker_less_0, if_pos k1, c_isSame (d + 1) L g hA hB, jb_f.mpr h1, jcI_some, e_Maker_less_5, jif_t (by decide), if_pos k2, c_isAll (d + 1) L g hB, jb_f.mpr h2, jcI_some, e_Maker_less_12, jif_t (by decide), if_pos k1]
      by_cases h3 : A = kNo
      · obtain ⟨I', J', q1, q2, q3, q4⟩ := set1 (vPair_val hV (fun w _ => by rw [h3, mHow_2, kL_no, Bool.false_and]))
        refine ⟨g, I', J', q1, q2, q3, ?_⟩
        rw [e12, c_isNothing (d + 1) L g hA, jb_t.mpr h3, jcI_some, e_Maker_less_26, jif_f (by decide), e_Maker_less_36, if_pos k3, q4, jcV_some, e_Maker_less_41, e_Maker_less_90]
      · by_cases h4 : B = kNo
        · obtain ⟨I', J', q1, q2, q3, q4⟩ := set1 (vPair_val hV (fun w _ => by rw [h4, mHow_2, kL_no, Bool.not_false, Bool.and_true]))
          refine ⟨g, I', J', q1, q2, q3, ?_⟩
          rw [e12, c_isNothing (d + 1) L g hA, jb_f.mpr h3, jcI_some, e_Maker_less_26, jif_t (by decide), if_pos k2, c_isNothing (d + 1) L g hB, jb_t.mpr h4, jcI_some, e_Maker_less_33, jif_f (by decide), e_Maker_less_36, if_pos k3, q4, jcV_some, e_Maker_less_41, e_Maker_less_90]
        · obtain ⟨I1, J1, J2, g', I', J', p1, p2, p3, p4, p5, p6, p7, p8⟩ := c_pairs3 d L g (m := 2) (by omega) hI hA hB ho hoC
          have e51 : jcall (d + 3) 32 [.ref 19, .ref a, .ref b, .ref out] (jGs L g, I, J) = jcI (jcall (d + 2) 42 [.ref 19, .int (nI (1 ||| 2 ^ A.1)), .ref out] (jGs L g, I1, J2)) (fun r2 S1 => jval (d + 2) 32 82 [jjunk, .ref a, jjunk, .ref out] [.int r2] S1) := by
            rw [e12, c_isNothing (d + 1) L g hA, jb_f.mpr h3, jcI_some, e_Maker_less_26, jif_t (by decide), if_pos k2, c_isNothing (d + 1) L g hB, jb_f.mpr h4, jcI_some, e_Maker_less_33, jif_t (by decide), show (2 : Int32) = nI 2 from rfl, p1, jcV_some, e_Maker_less_51, if_pos k1, if_pos k2, p2, p3, p4, eE_P hV hW, p5, jcV_some, e_Maker_less_69, p2, eK_P hV]
          rw [e51]
          have ho' : gK L g' out = 2 := by rw [(p7.2.1 out hoC).1]; exact ho
          have k3' : (jGs L g').1 out = 2 := ho'
          rcases p8 with ⟨V, v1, v2, v3⟩ | ⟨v1, v2, v3⟩
          · refine ⟨g', I', J', p6, p7, ?_, ?_⟩
            · unfold vPair; rw [v1, Option.getD_some]; exact v2
            · rw [v3, jcI_some, e_Maker_less_82, jif_f (by decide), e_Maker_less_90]
          · obtain ⟨I2, J3, q1, q2, q3⟩ := c_set (d + 1) L g' ho' (fX_R p7 hI hA haC (fun _ => v2))
            refine ⟨g', I2, J3, mkI_out L g' p6 ho' (fun x hx => (q1 x hx).1), fX_trans p7 (fX_one q1), ?_, ?_⟩
            · unfold vPair; rw [v1]; exact q2
            · rw [v3, jcI_some, e_Maker_less_82, jif_t (by decide), if_pos k3', q3, jcV_some, e_Maker_less_90]
end CC

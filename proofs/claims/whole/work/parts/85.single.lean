/-! THE CLASS: a program's text, one text alone -/
set_option maxRecDepth 100000
/-- a program's cell and its text -/
def pgC (L : Nat) (g : jG) (I : Nat → Nat → Int32) (pg cc n : Nat) (t : Nat → Nat) : Prop := gK L g pg = 6 ∧ gR L g pg 2 = some cc ∧ gK L g cc = 14 ∧ gN L g cc = n ∧ n ≤ 120 ∧ ∀ i, i < n → I cc i = nI (t i) ∧ True
section CC
variable (d L : Nat) (g : jG)
theorem c_codeAt {I : Nat → Nat → Int32} {J : Nat → Nat → Int64} {pg cc n i : Nat} {t : Nat → Nat} (h : pgC L g I pg cc n t) (hi : i < n) : jcall (d + 1) 63 [.ref pg, .int (nI i)] (jGs L g, I, J) = some (some (.int (nI (t i))), (jGs L g, I, J)) := by
  obtain ⟨h1, h2, h3, h4, h5, h6⟩ := h
  have k1 : (jGs L g).1 pg = 6 := h1
  have k2 : (jGs L g).1 cc = 14 := h3
  have r2 : (jGs L g).2.2.1 pg 2 = some cc := h2
  have l2 : (jGs L g).2.1 cc = n := h4
  have hv := (h6 i hi).1
  have h14 : (14 : Nat) ≤ 14 := Nat.le_refl _
  rw [c_Program_codeAt, e_Program_codeAt_0]
  simp (disch := omega) only [li_0, li_1, li_2, li_3, li_4, li_5, li_6, li_7, li_8, li_9, li_10, li_11, li_12, li_13, li_14, li_15, li_16, li_17, li_18, li_19, li_20, li_21, li_22, li_23, li_24, li_25, li_26, li_27, li_28, li_29, li_30, li_31, li_32, li_33, li_34, li_35, li_36, li_37, li_38, li_39, li_40, li_41, li_42, li_43, li_44, li_45, li_46, li_47, li_48, li_49, li_50, li_51, li_52, li_53, li_54, li_55, li_56, li_57, li_58, li_59, li_60, li_61, li_62, li_63, li_64, li_65, li_66, li_67, li_68, li_69, li_70, li_71, li_72, li_73, li_74, li_75, li_76, li_77, li_78, li_79, li_80, li_81, li_82, li_83, li_84, li_85, li_86, li_87, li_88, li_89, li_90, li_91, li_92, li_93, li_94, li_95, li_96, li_97, li_98, li_99, li_100, li_101, li_102, li_103, li_104, li_105, li_106, li_107, li_108, li_109, li_110, li_111, li_112, li_113, li_114, li_115, li_116, li_117, li_118, li_119, li_120, li_121, li_122, li_123, li_124, li_125, li_126, li_127, li_128, li_160, li_219, li_220, li_248, li_249, li_250, li_251, li_255, li_999, li_1000, li_1023, li_1024, li_10240, li_999999, li_1048576, li_1048575, nI_add, nI_mul, zi_div, zi_eq, zi_le, zi_lt, zi_in, zi_c, zi_sub, zi_ofN, zi_m1e, zi_m1e', zi_m1lt, zi_m1le, zi_ltm1, zi_lem1, zi_m1m1, jif_T, jif_F, jif_t, jif_f, zb_1, zb_0, zb_01, zb_ft, zn_01a, zn_01b, zi_tst, zi_pow, cond_true, jcI_some, jcV_some, jcJ_some, Nat.reduceAdd, Nat.reduceMul, Nat.reduceSub, reduceCtorEq, Bool.true_eq_false, Bool.false_eq_true, zb_t, zb_f, Nat.add_zero, Nat.zero_add, Nat.mul_zero, Nat.zero_mul, or_true, true_or, or_false, false_or, and_true, true_and, and_false, false_and, not_true_eq_false, not_false_eq_true, jo_some, ↓reduceIte, k1, k2, r2, l2, hv, h14]
  rw [e_Program_codeAt_23]
theorem c_codeAt_out {I : Nat → Nat → Int32} {J : Nat → Nat → Int64} {pg cc n i : Nat} {t : Nat → Nat} (h : pgC L g I pg cc n t) (hi : n ≤ i) (hi2 : i < 1000) : jcall (d + 1) 63 [.ref pg, .int (nI i)] (jGs L g, I, J) = some (some (.int (-1)), (jGs L g, I, J)) := by
  obtain ⟨h1, h2, h3, h4, h5, h6⟩ := h
  have k1 : (jGs L g).1 pg = 6 := h1
  have k2 : (jGs L g).1 cc = 14 := h3
  have r2 : (jGs L g).2.2.1 pg 2 = some cc := h2
  have l2 : (jGs L g).2.1 cc = n := h4
  have h14 : (14 : Nat) ≤ 14 := Nat.le_refl _
  rw [c_Program_codeAt, e_Program_codeAt_0]
  simp (disch := omega) only [li_0, li_1, li_2, li_3, li_4, li_5, li_6, li_7, li_8, li_9, li_10, li_11, li_12, li_13, li_14, li_15, li_16, li_17, li_18, li_19, li_20, li_21, li_22, li_23, li_24, li_25, li_26, li_27, li_28, li_29, li_30, li_31, li_32, li_33, li_34, li_35, li_36, li_37, li_38, li_39, li_40, li_41, li_42, li_43, li_44, li_45, li_46, li_47, li_48, li_49, li_50, li_51, li_52, li_53, li_54, li_55, li_56, li_57, li_58, li_59, li_60, li_61, li_62, li_63, li_64, li_65, li_66, li_67, li_68, li_69, li_70, li_71, li_72, li_73, li_74, li_75, li_76, li_77, li_78, li_79, li_80, li_81, li_82, li_83, li_84, li_85, li_86, li_87, li_88, li_89, li_90, li_91, li_92, li_93, li_94, li_95, li_96, li_97, li_98, li_99, li_100, li_101, li_102, li_103, li_104, li_105, li_106, li_107, li_108, li_109, li_110, li_111, li_112, li_113, li_114, li_115, li_116, li_117, li_118, li_119, li_120, li_121, li_122, li_123, li_124, li_125, li_126, li_127, li_128, li_160, li_219, li_220, li_248, li_249, li_250, li_251, li_255, li_999, li_1000, li_1023, li_1024, li_10240, li_999999, li_1048576, li_1048575, nI_add, nI_mul, zi_div, zi_eq, zi_le, zi_lt, zi_in, zi_c, zi_sub, zi_ofN, zi_m1e, zi_m1e', zi_m1lt, zi_m1le, zi_ltm1, zi_lem1, zi_m1m1, jif_T, jif_F, jif_t, jif_f, zb_1, zb_0, zb_01, zb_ft, zn_01a, zn_01b, zi_tst, zi_pow, cond_true, jcI_some, jcV_some, jcJ_some, Nat.reduceAdd, Nat.reduceMul, Nat.reduceSub, reduceCtorEq, Bool.true_eq_false, Bool.false_eq_true, zb_t, zb_f, Nat.add_zero, Nat.zero_add, Nat.mul_zero, Nat.zero_mul, or_true, true_or, or_false, false_or, and_true, true_and, and_false, false_and, not_true_eq_false, not_false_eq_true, jo_some, ↓reduceIte, k1, k2, r2, l2, h14]
  rw [e_Program_codeAt_22, e_Program_codeAt_23]
  rfl
end CC
def fS1 (t : Nat → Nat) (n q l : Nat) : Nat := if q < n ∧ t q = l then 2 ^ (q + 1) else 0
def phS (n k : Nat) : Nat := if k ≤ n then 2 ^ k else 0
theorem phS_bit {n k q : Nat} : (phS n k).testBit q = true ↔ k ≤ n ∧ q = k := by
  unfold phS
  by_cases h : k ≤ n
  · rw [if_pos h, Nat.testBit_two_pow, decide_eq_true_iff]
    exact ⟨fun e => ⟨h, e.symm⟩, fun e => e.2.symm⟩
  · rw [if_neg h, Nat.zero_testBit]
    exact ⟨fun e => absurd e (by decide), fun e => absurd e.1 h⟩
theorem fS1_bit {t : Nat → Nat} {n q l j : Nat} : (fS1 t n q l).testBit j = true ↔ q < n ∧ t q = l ∧ j = q + 1 := by
  unfold fS1
  by_cases h : q < n ∧ t q = l
  · rw [if_pos h, Nat.testBit_two_pow, decide_eq_true_iff]
    exact ⟨fun e => ⟨h.1, h.2, e.symm⟩, fun e => e.2.2.symm⟩
  · rw [if_neg h, Nat.zero_testBit]
    exact ⟨fun e => absurd e (by decide), fun e => absurd ⟨e.1, e.2.1⟩ h⟩
theorem fS1_lt {t : Nat → Nat} {n : Nat} (hn : n ≤ 8) (q l : Nat) : fS1 t n q l < 1048576 := by
  unfold fS1
  split
  · exact Nat.pow_lt_pow_right (n := 20) (by omega) (by omega)
  · omega
theorem sim_S {t : Nat → Nat} {n : Nat} (hn : n ≤ 8) : mSim (n + 1) (n + 1) 0 (2 ^ n) (fS1 t n) (nxS t n) (enS n) 0 (fun k => k ≤ n + 1) (phS n) := by
  refine ⟨by omega, fun x l hx hl => ⟨by show nxS t n x l ≤ n + 1; have hx' : x ≤ n + 1 := hx; unfold nxS; split <;> omega, ?_⟩, fun x hx => ?_, fun x hx => ?_, Or.inl rfl⟩
  · have hx' : x ≤ n + 1 := hx
    apply Nat.eq_of_testBit_eq
    intro j
    unfold nxM
    rw [Bool.eq_iff_iff, kNr_bit, phS_bit]
    unfold nxS
    constructor
    · rintro ⟨q, q1, q2, q3⟩
      obtain ⟨e1, e2⟩ := phS_bit.mp q2
      obtain ⟨f1, f2, f3⟩ := fS1_bit.mp q3
      subst e2
      rw [if_pos ⟨f1, f2⟩]
      exact ⟨by omega, f3⟩
    · rintro ⟨h1, h2⟩
      by_cases h : x < n ∧ t x = l
      · rw [if_pos h] at h1 h2
        exact ⟨x, by omega, phS_bit.mpr ⟨by omega, rfl⟩, fS1_bit.mpr ⟨h.1, h.2, h2⟩⟩
      · rw [if_neg h] at h1
        omega
  · have hx' : x ≤ n + 1 := hx
    refine ⟨by omega, ?_⟩
    unfold phS
    split
    · exact Nat.pow_lt_pow_right (n := 20) (by omega) (by omega)
    · omega
  · unfold enM aK enS
    rw [mHow_0, Bool.eq_iff_iff, Bool.or_eq_true, jb_t, jb_t, decide_eq_true_iff]
    constructor
    · have key : (∃ q, q < n + 1 ∧ (phS n x).testBit q = true ∧ (2 ^ n).testBit q = true) → x = n := by
        rintro ⟨q, q1, q2, q3⟩
        rw [Nat.testBit_two_pow, decide_eq_true_iff] at q3
        have := (phS_bit.mp q2).2
        omega
      rintro (⟨q, q1, q2, q3, q4⟩ | ⟨q, q1, q2, q3, q4⟩)
      · exact key ⟨q, q1, q3, q4⟩
      · exact key ⟨q, q1, q3, q4⟩
    · intro h
      subst h
      exact Or.inl ⟨x, by omega, by omega, phS_bit.mpr ⟨by omega, rfl⟩, Nat.testBit_two_pow_self⟩
section CC
variable (d L : Nat) (g : jG)
def fSt (t : Nat → Nat) (n i0 : Nat) (q l : Nat) : Nat := if q < i0 then fS1 t n q l else 0
theorem c_sin_36 {I : Nat → Nat → Int32} {pg cc cn f n out : Nat} {t T : Nat → Nat} (hP : pgC L g I pg cc cn T) (hn : n ≤ 8) (hfn : f + n ≤ cn) (ht : ∀ i, i < n → T (f + i) = 97 + t i ∧ t i < 3) : ∀ k i (J : Nat → Nat → Int64), i + k = n → mkU I J (n + 1) (n + 1) 0 (fSt t n i) → ∃ J', (∀ y, y ≠ 20 → J' y = J y) ∧ mkU I J' (n + 1) (n + 1) 0 (fS1 t n) ∧ jval (d + 1) 39 36 [.ref 19, .ref pg, .int (nI f), jjunk, .ref out, .int (nI n), .int (nI i)] [] (jGs L g, I, J) = jval (d + 1) 39 36 [.ref 19, .ref pg, .int (nI f), jjunk, .ref out, .int (nI n), .int (nI n)] [] (jGs L g, I, J') := by
  have h5 := hP.2.2.2.2.1
  have k1 : (jGs L g).1 pg = 6 := hP.1
  intro k
  induction k with
  | zero =>
    intro i J hi hU
    have : i = n := by omega
    subst this
    refine ⟨J, fun _ _ => rfl, mkU_cg hU (fun q _ l _ => ?_) (fS1_lt hn), rfl⟩
    unfold fSt
    by_cases h : q < i
    · rw [if_pos h]
    · rw [if_neg h]
      unfold fS1
      rw [if_neg (fun hh => h hh.1)]
  | succ k ih =>
    intro i J hi hU
    obtain ⟨t1, t2⟩ := ht i (by omega)
    have hpow : (1 : Int32) <<< (nI (i + 1) &&& 31) = nI (2 ^ (i + 1)) := nI_pow _ (by omega)
    have hlt : 2 ^ (i + 1) < 1048576 := Nat.pow_lt_pow_right (n := 20) (by omega) (by omega)
    obtain ⟨s1, s2⟩ := c_addStepU d L g hU (show i < n + 1 by omega) t2 hlt
    obtain ⟨J', q1, q2, q3⟩ := ih (i + 1) _ (by omega) (mkU_cg s1 (fun q _ l _ => by
      by_cases hq : q = i
      · subst hq
        rw [jup_s]
        unfold fSt
        rw [if_pos (by omega), if_neg (by omega)]
        unfold fS1
        by_cases hl : l = t q
        · rw [hl, jup_s, if_pos ⟨by omega, rfl⟩, Nat.zero_or]
        · rw [jup_n hl, if_neg (fun h => hl h.2.symm)]
          rw [if_neg (by omega)]
      · rw [jup_n hq]
        unfold fSt
        by_cases h : q < i
        · rw [if_pos (by omega), if_pos h]
        · rw [if_neg (by omega), if_neg h]) (fun q l => by unfold fSt; split; exact fS1_lt hn q l; omega))
    refine ⟨J', fun y hy => (q1 y hy).trans (ju_n hy), q2, ?_⟩
    rw [e_Maker_single_36, jif_f (nI_ge (by omega) (by omega)), if_pos k1, nI_add, c_codeAt d L g hP (by omega), jcI_some, e_Maker_single_54, t1, show nI (97 + t i) - (97 : Int32) = nI (t i) by rw [show (97 : Int32) = nI 97 from rfl, zi_sub (by omega), Nat.add_sub_cancel_left], nI_1, hpow, s2, jcV_some, e_Maker_single_66, nI_1]
    exact q3
theorem c_single {I : Nat → Nat → Int32} {J : Nat → Nat → Int64} {PC PQ pg cc cn f n out : Nat} {t T : Nat → Nat} (hI : mkI L g I PC PQ) (hP : pgC L g I pg cc cn T) (hfn : f + n ≤ cn) (ht : ∀ i, i < n → T (f + i) = 97 + t i ∧ t i < 3) (ho : gK L g out = 2) (hoC : out ≤ g.2.2.2.1) : ∃ g' I' J', mkI L g' I' PC PQ ∧ fX L g g' I I' J J' out ∧ cR L g' I' J' out (vText t n) ∧ jcall (d + 3) 39 [.ref 19, .ref pg, .int (nI f), .int (nI (f + n)), .ref out] (jGs L g, I, J) = some (none, (jGs L g', I', J')) := by
  have h5 := hP.2.2.2.2.1
  have k3 : (jGs L g).1 out = 2 := ho
  have e0 : nI (f + n) - nI f = nI n := by rw [zi_sub (by omega), Nat.add_sub_cancel_left]
  have hneg : ¬ nI n < (0 : Int32) := nI_pos (by omega)
  have e2 : nI n + (2 : Int32) = nI (n + 2) := nI_add n 2
  by_cases h10 : 10 < n + 2
  · obtain ⟨I', J', q1, q2, q3⟩ := c_makeAll (d + 1) L g (I := I) (J := J) ho
    refine ⟨g, I', J', mkI_out L g hI ho (fun x hx => (q1 x hx).1), fX_one q1, ?_, ?_⟩
    · unfold vText; rw [if_pos h10]; exact q2
    · rw [c_Maker_single, e_Maker_single_0, e0, jif_f hneg, e2, jif_f (show ¬ nI (n + 2) ≤ (10 : Int32) from nI_ge (a := 10) (b := n + 2) (by omega) (by omega)), e_Maker_single_19, if_pos k3, q3, jcV_some, e_Maker_single_24]
  · have hn : n ≤ 8 := by omega
    obtain ⟨J1, b1, b2, b3⟩ := c_begin (d + 1) L g (I := I) (J := J) (n := n + 1) (by omega)
    have i19 : ∀ x, x ≠ 19 → ju (ju (ju I 19 4 (nI (n + 1))) 19 5 (nI (n + 1))) 19 6 (nI 0) x = I x := fun x hx => by rw [ju_n hx, ju_n hx, ju_n hx]
    have i7 : ju (ju (ju I 19 4 (nI (n + 1))) 19 5 (nI (n + 1))) 19 6 (nI 0) 19 7 = I 19 7 := by rw [zu_k (by omega), zu_k (by omega), zu_k (by omega)]
    have i12 : ju (ju (ju I 19 4 (nI (n + 1))) 19 5 (nI (n + 1))) 19 6 (nI 0) 19 12 = I 19 12 := by rw [zu_k (by omega), zu_k (by omega), zu_k (by omega)]
    generalize ju (ju (ju I 19 4 (nI (n + 1))) 19 5 (nI (n + 1))) 19 6 (nI 0) = I1 at *
    have hc19 : cc ≠ 19 := ne_K hP.2.2.1 (gK_19 L g) (by omega)
    have hP1 : pgC L g I1 pg cc cn T := ⟨hP.1, hP.2.1, hP.2.2.1, hP.2.2.2.1, h5, fun i hi => by rw [i19 cc hc19]; exact hP.2.2.2.2.2 i hi⟩
    obtain ⟨J2, r1, r2, r3⟩ := c_sin_36 (d + 1) L g (out := out) hP1 hn hfn ht n 0 J1 (by omega) (mkU_cg b2 (fun q _ l _ => by unfold fSt; rw [if_neg (by omega)]) (fun q l => by unfold fSt; split; exact fS1_lt hn q l; omega))
    have hE : 2 ^ n < 1048576 := Nat.pow_lt_pow_right (n := 20) (by omega) (by omega)
    obtain ⟨J3, s1, s2, s3⟩ := c_signU d L g r2 hE
    have hI1 : mkI L g I1 PC PQ := mkI_cg hI i7 i12 i19
    obtain ⟨g', I', J', f1, f2, f3⟩ := c_finU d L hI1 s2 (fS1_lt hn) (sim_S (t := t) hn) ho hoC
    rw [show phS n 0 = 1 from if_pos (by omega)] at f3
    have hf : fX L g g' I I' J J' out := fX_trans (fG_X (fG_same (fun x hx => by
      obtain ⟨x1, x2, x3, x4, x5⟩ := mkO_20 hx
      exact ⟨i19 x x1, by rw [s1 x x3 x4 x5, r1 x x2]; exact b1 x x2⟩))) f2
    have hpow : (1 : Int32) <<< (nI n &&& 31) = nI (2 ^ n) := nI_pow _ (by omega)
    have e36 : jcall (d + 3) 39 [.ref 19, .ref pg, .int (nI f), .int (nI (f + n)), .ref out] (jGs L g, I, J) = jcI (jcall (d + 2) 42 [.ref 19, .int (nI 1), .ref out] (jGs L g, I1, J3)) (fun r2 S1 => jval (d + 2) 39 87 [jjunk, jjunk, jjunk, jjunk, .ref out, jjunk, jjunk] [.int r2] S1) := by
      rw [c_Maker_single, e_Maker_single_0, e0, jif_f hneg, e2, jif_t (show nI (n + 2) ≤ (10 : Int32) from nI_le (a := n + 2) (b := 10) (by omega) (by omega)), nI_1, b3, jcV_some, e_Maker_single_33, show (0 : Int32) = nI 0 from rfl, r3, e_Maker_single_36, jif_t (nI_le (Nat.le_refl _) (by omega)), hpow, s3, jcV_some, e_Maker_single_80]
      rfl
    rw [e36]
    have ho' : gK L g' out = 2 := by rw [(hf.2.1 out hoC).1]; exact ho
    have k3' : (jGs L g').1 out = 2 := ho'
    rcases f3 with ⟨V, v1, v2, v3⟩ | ⟨v1, v2, v3, v4⟩
    · refine ⟨g', I', J', f1, hf, ?_, ?_⟩
      · unfold vText; rw [if_neg h10, v1, Option.getD_some]; exact v2
      · rw [v3, jcI_some, e_Maker_single_87, jif_f (by decide), e_Maker_single_95]
    · obtain ⟨I5, J5, q1, q2, q3⟩ := c_makeAll (d + 1) L g' (I := I') (J := J') ho'
      refine ⟨g', I5, J5, mkI_out L g' f1 ho' (fun x hx => (q1 x hx).1), fX_trans hf (fX_one q1), ?_, ?_⟩
      · unfold vText; rw [if_neg h10, v1]; exact q2
      · rw [v4, jcI_some, e_Maker_single_87, jif_t (by decide), if_pos k3', q3, jcV_some, e_Maker_single_95]
end CC

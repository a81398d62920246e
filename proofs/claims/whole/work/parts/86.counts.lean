/-! how many texts of a length a state takes; the reference's counts -/
set_option maxRecDepth 100000
def cnt (A : kA) : Nat → Nat → Nat
  | 0, q => if A.2.1 q = true then 1 else 0
  | n + 1, q => cnt A n (A.2.2 q 0) + cnt A n (A.2.2 q 1) + cnt A n (A.2.2 q 2)
/-- the j-th text of length n from a state on -/
def spl (A : kA) : Nat → Nat → Nat → List Nat
  | 0, _, _ => []
  | n + 1, q, j => if j < cnt A n (A.2.2 q 0) then 0 :: spl A n (A.2.2 q 0) j else if j < cnt A n (A.2.2 q 0) + cnt A n (A.2.2 q 1) then 1 :: spl A n (A.2.2 q 1) (j - cnt A n (A.2.2 q 0)) else 2 :: spl A n (A.2.2 q 2) (j - cnt A n (A.2.2 q 0) - cnt A n (A.2.2 q 1))
theorem spl_len (A : kA) : ∀ n q j, (spl A n q j).length = n
  | 0, _, _ => rfl
  | n + 1, q, j => by
    unfold spl
    split
    · rw [List.length_cons, spl_len A n]
    · split
      · rw [List.length_cons, spl_len A n]
      · rw [List.length_cons, spl_len A n]
theorem spl_W (A : kA) : ∀ n q j, kW (spl A n q j)
  | 0, _, _ => kW_nil
  | n + 1, q, j => by
    unfold spl
    split
    · exact kW_cons (by omega) (spl_W A n _ _)
    · split
      · exact kW_cons (by omega) (spl_W A n _ _)
      · exact kW_cons (by omega) (spl_W A n _ _)
/-- the text that has so many before it, from length n on -/
def fTg (A : kA) : Nat → Nat → Nat → Option (List Nat)
  | 0, _, _ => none
  | f + 1, n, j => if j < cnt A n 0 then some (spl A n 0 j) else fTg A f (n + 1) (j - cnt A n 0)
def fT (A : kA) (k : Nat) : Option (List Nat) := fTg A 220 0 k
theorem min_sum {a b c m : Nat} : min (min a m + min b m + min c m) m = min (a + b + c) m := by omega
section MM
variable (d L : Nat) (g : jG) (J : Nat → Nat → Int64)
theorem r_counts_2 {k most : Nat} {A : kA} : ∀ n r (I : Nat → Nat → Int32), r + n = A.1 → mR I k A → (∀ q, q < r → I 134 q = nI (min (cnt A 0 q) 1000)) → ∃ I', (∀ a, a ≠ 134 → I' a = I a) ∧ (∀ q, q < A.1 → I' 134 q = nI (min (cnt A 0 q) 1000)) ∧ jval (d + 2) 191 2 [.ref 117, .int (nI k), .int (nI most), .int (nI r), jjunk, jjunk, jjunk] [] (jGs L g, I, J) = jval (d + 2) 191 39 [.ref 117, .int (nI k), .int (nI most), .int (nI 1), jjunk, jjunk, jjunk] [] (jGs L g, I', J) := by
  intro n
  induction n with
  | zero =>
    intro r I hr hA h
    have h10 := hA.2.1
    have : r = A.1 := by omega
    subst this
    refine ⟨I, fun _ _ => rfl, h, ?_⟩
    rw [e_TextValuesModel_counts_2, r_size (d + 1) L g J hA, jcI_some, e_TextValuesModel_counts_8, jif_t (nI_le (Nat.le_refl _) (by omega))]
    rfl
  | succ n ih =>
    intro r I hr hA h
    have h10 := hA.2.1
    obtain ⟨I', q1, q2, q3⟩ := ih (r + 1) (ju I 134 r (nI (min (cnt A 0 r) 1000))) (by omega) (mR_cg hA (fun c _ => zu_a (by omega))) (fun q hq => by
      by_cases hqr : q = r
      · rw [hqr, zu_at]
      · rw [zu_k hqr]; exact h q (by omega))
    refine ⟨I', fun a ha => (q1 a ha).trans (ju_n ha), q2, ?_⟩
    rw [e_TextValuesModel_counts_2, r_size (d + 1) L g J hA, jcI_some, e_TextValuesModel_counts_8, jif_f (nI_ge (by omega) (by omega)), r_isEnd d L g J hA (by omega), jcI_some, e_TextValuesModel_counts_22]
    rw [← q3]
    show _ = jval (d + 2) 191 2 [.ref 117, .int (nI k), .int (nI most), .int (nI (r + 1)), jjunk, jjunk, jjunk] [] (jGs L g, ju I 134 r (nI (min (if A.2.1 r = true then 1 else 0) 1000)), J)
    cases A.2.1 r
    · rw [jif_t (by decide), e_TextValuesModel_counts_30]
      simp (disch := omega) only [li_0, li_1, li_2, li_3, li_4, li_5, li_6, li_7, li_8, li_9, li_10, li_11, li_12, li_13, li_14, li_15, li_16, li_17, li_18, li_19, li_20, li_21, li_22, li_23, li_24, li_25, li_26, li_27, li_28, li_29, li_30, li_31, li_32, li_33, li_34, li_35, li_36, li_37, li_38, li_39, li_40, li_41, li_42, li_43, li_44, li_45, li_46, li_47, li_48, li_49, li_50, li_51, li_52, li_53, li_54, li_55, li_56, li_57, li_58, li_59, li_60, li_61, li_62, li_63, li_64, li_65, li_66, li_67, li_68, li_69, li_70, li_71, li_72, li_73, li_74, li_75, li_76, li_77, li_78, li_79, li_80, li_81, li_82, li_83, li_84, li_85, li_86, li_87, li_88, li_89, li_90, li_91, li_92, li_93, li_94, li_95, li_96, li_97, li_98, li_99, li_100, li_101, li_102, li_103, li_104, li_105, li_106, li_107, li_108, li_109, li_110, li_111, li_112, li_113, li_114, li_115, li_116, li_117, li_118, li_119, li_120, li_121, li_122, li_123, li_124, li_125, li_126, li_127, li_128, li_160, li_219, li_220, li_248, li_249, li_250, li_251, li_255, li_999, li_1000, li_1023, li_1024, li_10240, li_999999, li_1048576, li_1048575, nI_add, nI_mul, zi_div, zi_eq, zi_le, zi_lt, zi_in, zi_c, zi_sub, zi_ofN, zi_m1e, zi_m1e', zi_m1lt, zi_m1le, zi_ltm1, zi_lem1, zi_m1m1, jif_T, jif_F, jif_t, jif_f, zb_1, zb_0, zb_01, zb_ft, zn_01a, zn_01b, zi_tst, zi_pow, cond_true, jcI_some, jcV_some, jcJ_some, Nat.reduceAdd, Nat.reduceMul, Nat.reduceSub, reduceCtorEq, Bool.true_eq_false, Bool.false_eq_true, zb_t, zb_f, Nat.add_zero, Nat.zero_add, Nat.mul_zero, Nat.zero_mul, or_true, true_or, or_false, false_or, and_true, true_and, and_false, false_and, not_true_eq_false, not_false_eq_true]
      rfl
    · rw [jif_f (by decide), e_TextValuesModel_counts_30]
      simp (disch := omega) only [li_0, li_1, li_2, li_3, li_4, li_5, li_6, li_7, li_8, li_9, li_10, li_11, li_12, li_13, li_14, li_15, li_16, li_17, li_18, li_19, li_20, li_21, li_22, li_23, li_24, li_25, li_26, li_27, li_28, li_29, li_30, li_31, li_32, li_33, li_34, li_35, li_36, li_37, li_38, li_39, li_40, li_41, li_42, li_43, li_44, li_45, li_46, li_47, li_48, li_49, li_50, li_51, li_52, li_53, li_54, li_55, li_56, li_57, li_58, li_59, li_60, li_61, li_62, li_63, li_64, li_65, li_66, li_67, li_68, li_69, li_70, li_71, li_72, li_73, li_74, li_75, li_76, li_77, li_78, li_79, li_80, li_81, li_82, li_83, li_84, li_85, li_86, li_87, li_88, li_89, li_90, li_91, li_92, li_93, li_94, li_95, li_96, li_97, li_98, li_99, li_100, li_101, li_102, li_103, li_104, li_105, li_106, li_107, li_108, li_109, li_110, li_111, li_112, li_113, li_114, li_115, li_116, li_117, li_118, li_119, li_120, li_121, li_122, li_123, li_124, li_125, li_126, li_127, li_128, li_160, li_219, li_220, li_248, li_249, li_250, li_251, li_255, li_999, li_1000, li_1023, li_1024, li_10240, li_999999, li_1048576, li_1048575, nI_add, nI_mul, zi_div, zi_eq, zi_le, zi_lt, zi_in, zi_c, zi_sub, zi_ofN, zi_m1e, zi_m1e', zi_m1lt, zi_m1le, zi_ltm1, zi_lem1, zi_m1m1, jif_T, jif_F, jif_t, jif_f, zb_1, zb_0, zb_01, zb_ft, zn_01a, zn_01b, zi_tst, zi_pow, cond_true, jcI_some, jcV_some, jcJ_some, Nat.reduceAdd, Nat.reduceMul, Nat.reduceSub, reduceCtorEq, Bool.true_eq_false, Bool.false_eq_true, zb_t, zb_f, Nat.add_zero, Nat.zero_add, Nat.mul_zero, Nat.zero_mul, or_true, true_or, or_false, false_or, and_true, true_and, and_false, false_and, not_true_eq_false, not_false_eq_true]
      rfl
theorem r_counts_63 {I : Nat → Nat → Int32} {k most n r : Nat} {A : kA} (hA : mR I k A) (hr : r < A.1) (hn : n < 220) (hw : ∀ q, q < A.1 → I 134 (10 * n + q) = nI (min (cnt A n q) 1000)) : jval (d + 1) 191 63 [.ref 117, .int (nI k), .int (nI most), .int (nI (n + 1)), .int (nI r), .int (nI 0), .int (nI 0)] [] (jGs L g, I, J) = jval (d + 1) 191 47 [.ref 117, .int (nI k), .int (nI most), .int (nI (n + 1)), .int (nI (r + 1)), jjunk, jjunk] [] (jGs L g, ju I 134 (10 * (n + 1) + r) (nI (min (cnt A (n + 1) r) 1000)), J) := by
  have h10 := hA.2.1
  have wA := hA.2.2.1
  have step : ∀ l s, l < 3 → s < 5000 → jval (d + 1) 191 63 [.ref 117, .int (nI k), .int (nI most), .int (nI (n + 1)), .int (nI r), .int (nI s), .int (nI l)] [] (jGs L g, I, J) = jval (d + 1) 191 63 [.ref 117, .int (nI k), .int (nI most), .int (nI (n + 1)), .int (nI r), .int (nI (s + min (cnt A n (A.2.2 r l)) 1000)), .int (nI (l + 1))] [] (jGs L g, I, J) := by
    intro l s hl hs
    have ht := wA.2 r hr l hl
    have hv := hw _ ht
    rw [e_TextValuesModel_counts_63, jif_f (show ¬ (3 : Int32) ≤ nI l from nI_ge (a := l) (b := 3) hl (by omega)), r_to d L g J hA hr hl, jcI_some, e_TextValuesModel_counts_90]
    simp (disch := omega) only [li_0, li_1, li_2, li_3, li_4, li_5, li_6, li_7, li_8, li_9, li_10, li_11, li_12, li_13, li_14, li_15, li_16, li_17, li_18, li_19, li_20, li_21, li_22, li_23, li_24, li_25, li_26, li_27, li_28, li_29, li_30, li_31, li_32, li_33, li_34, li_35, li_36, li_37, li_38, li_39, li_40, li_41, li_42, li_43, li_44, li_45, li_46, li_47, li_48, li_49, li_50, li_51, li_52, li_53, li_54, li_55, li_56, li_57, li_58, li_59, li_60, li_61, li_62, li_63, li_64, li_65, li_66, li_67, li_68, li_69, li_70, li_71, li_72, li_73, li_74, li_75, li_76, li_77, li_78, li_79, li_80, li_81, li_82, li_83, li_84, li_85, li_86, li_87, li_88, li_89, li_90, li_91, li_92, li_93, li_94, li_95, li_96, li_97, li_98, li_99, li_100, li_101, li_102, li_103, li_104, li_105, li_106, li_107, li_108, li_109, li_110, li_111, li_112, li_113, li_114, li_115, li_116, li_117, li_118, li_119, li_120, li_121, li_122, li_123, li_124, li_125, li_126, li_127, li_128, li_160, li_219, li_220, li_248, li_249, li_250, li_251, li_255, li_999, li_1000, li_1023, li_1024, li_10240, li_999999, li_1048576, li_1048575, nI_add, nI_mul, zi_div, zi_eq, zi_le, zi_lt, zi_in, zi_c, zi_sub, zi_ofN, zi_m1e, zi_m1e', zi_m1lt, zi_m1le, zi_ltm1, zi_lem1, zi_m1m1, jif_T, jif_F, jif_t, jif_f, zb_1, zb_0, zb_01, zb_ft, zn_01a, zn_01b, zi_tst, zi_pow, cond_true, jcI_some, jcV_some, jcJ_some, Nat.reduceAdd, Nat.reduceMul, Nat.reduceSub, reduceCtorEq, Bool.true_eq_false, Bool.false_eq_true, zb_t, zb_f, Nat.add_zero, Nat.zero_add, Nat.mul_zero, Nat.zero_mul, or_true, true_or, or_false, false_or, and_true, true_and, and_false, false_and, not_true_eq_false, not_false_eq_true, Nat.add_sub_cancel, hv]
  rw [step 0 0 (by omega) (by omega), step (0 + 1) _ (by omega) (by omega), step (0 + 1 + 1) _ (by omega) (by omega), e_TextValuesModel_counts_63, jif_t (show (3 : Int32) ≤ nI (0 + 1 + 1 + 1) by decide)]
  have hm : min (cnt A (n + 1) r) 1000 = min (0 + min (cnt A n (A.2.2 r 0)) 1000 + min (cnt A n (A.2.2 r (0 + 1))) 1000 + min (cnt A n (A.2.2 r (0 + 1 + 1))) 1000) 1000 := by
    show min (cnt A n (A.2.2 r 0) + cnt A n (A.2.2 r 1) + cnt A n (A.2.2 r 2)) 1000 = _
    rw [Nat.zero_add, min_sum]
  rw [hm]
  generalize hs : 0 + min (cnt A n (A.2.2 r 0)) 1000 + min (cnt A n (A.2.2 r (0 + 1))) 1000 + min (cnt A n (A.2.2 r (0 + 1 + 1))) 1000 = s
  have hs5 : s < 5000 := by omega
  by_cases h1 : 1000 ≤ s
  · rw [jif_t (show (1000 : Int32) ≤ nI s from nI_le (a := 1000) (b := s) h1 (by omega)), e_TextValuesModel_counts_128, Nat.min_eq_right h1]
    simp (disch := omega) only [li_0, li_1, li_2, li_3, li_4, li_5, li_6, li_7, li_8, li_9, li_10, li_11, li_12, li_13, li_14, li_15, li_16, li_17, li_18, li_19, li_20, li_21, li_22, li_23, li_24, li_25, li_26, li_27, li_28, li_29, li_30, li_31, li_32, li_33, li_34, li_35, li_36, li_37, li_38, li_39, li_40, li_41, li_42, li_43, li_44, li_45, li_46, li_47, li_48, li_49, li_50, li_51, li_52, li_53, li_54, li_55, li_56, li_57, li_58, li_59, li_60, li_61, li_62, li_63, li_64, li_65, li_66, li_67, li_68, li_69, li_70, li_71, li_72, li_73, li_74, li_75, li_76, li_77, li_78, li_79, li_80, li_81, li_82, li_83, li_84, li_85, li_86, li_87, li_88, li_89, li_90, li_91, li_92, li_93, li_94, li_95, li_96, li_97, li_98, li_99, li_100, li_101, li_102, li_103, li_104, li_105, li_106, li_107, li_108, li_109, li_110, li_111, li_112, li_113, li_114, li_115, li_116, li_117, li_118, li_119, li_120, li_121, li_122, li_123, li_124, li_125, li_126, li_127, li_128, li_160, li_219, li_220, li_248, li_249, li_250, li_251, li_255, li_999, li_1000, li_1023, li_1024, li_10240, li_999999, li_1048576, li_1048575, nI_add, nI_mul, zi_div, zi_eq, zi_le, zi_lt, zi_in, zi_c, zi_sub, zi_ofN, zi_m1e, zi_m1e', zi_m1lt, zi_m1le, zi_ltm1, zi_lem1, zi_m1m1, jif_T, jif_F, jif_t, jif_f, zb_1, zb_0, zb_01, zb_ft, zn_01a, zn_01b, zi_tst, zi_pow, cond_true, jcI_some, jcV_some, jcJ_some, Nat.reduceAdd, Nat.reduceMul, Nat.reduceSub, reduceCtorEq, Bool.true_eq_false, Bool.false_eq_true, zb_t, zb_f, Nat.add_zero, Nat.zero_add, Nat.mul_zero, Nat.zero_mul, or_true, true_or, or_false, false_or, and_true, true_and, and_false, false_and, not_true_eq_false, not_false_eq_true]
  · rw [jif_f (show ¬ (1000 : Int32) ≤ nI s from nI_ge (a := s) (b := 1000) (by omega) (by omega)), e_TextValuesModel_counts_128, Nat.min_eq_left (by omega)]
    simp (disch := omega) only [li_0, li_1, li_2, li_3, li_4, li_5, li_6, li_7, li_8, li_9, li_10, li_11, li_12, li_13, li_14, li_15, li_16, li_17, li_18, li_19, li_20, li_21, li_22, li_23, li_24, li_25, li_26, li_27, li_28, li_29, li_30, li_31, li_32, li_33, li_34, li_35, li_36, li_37, li_38, li_39, li_40, li_41, li_42, li_43, li_44, li_45, li_46, li_47, li_48, li_49, li_50, li_51, li_52, li_53, li_54, li_55, li_56, li_57, li_58, li_59, li_60, li_61, li_62, li_63, li_64, li_65, li_66, li_67, li_68, li_69, li_70, li_71, li_72, li_73, li_74, li_75, li_76, li_77, li_78, li_79, li_80, li_81, li_82, li_83, li_84, li_85, li_86, li_87, li_88, li_89, li_90, li_91, li_92, li_93, li_94, li_95, li_96, li_97, li_98, li_99, li_100, li_101, li_102, li_103, li_104, li_105, li_106, li_107, li_108, li_109, li_110, li_111, li_112, li_113, li_114, li_115, li_116, li_117, li_118, li_119, li_120, li_121, li_122, li_123, li_124, li_125, li_126, li_127, li_128, li_160, li_219, li_220, li_248, li_249, li_250, li_251, li_255, li_999, li_1000, li_1023, li_1024, li_10240, li_999999, li_1048576, li_1048575, nI_add, nI_mul, zi_div, zi_eq, zi_le, zi_lt, zi_in, zi_c, zi_sub, zi_ofN, zi_m1e, zi_m1e', zi_m1lt, zi_m1le, zi_ltm1, zi_lem1, zi_m1m1, jif_T, jif_F, jif_t, jif_f, zb_1, zb_0, zb_01, zb_ft, zn_01a, zn_01b, zi_tst, zi_pow, cond_true, jcI_some, jcV_some, jcJ_some, Nat.reduceAdd, Nat.reduceMul, Nat.reduceSub, reduceCtorEq, Bool.true_eq_false, Bool.false_eq_true, zb_t, zb_f, Nat.add_zero, Nat.zero_add, Nat.mul_zero, Nat.zero_mul, or_true, true_or, or_false, false_or, and_true, true_and, and_false, false_and, not_true_eq_false, not_false_eq_true]
theorem r_counts_47 {k most n : Nat} {A : kA} (hn : n < 220) : ∀ m r (I : Nat → Nat → Int32), r + m = A.1 → mR I k A → (∀ n', n' ≤ n → ∀ q, q < A.1 → I 134 (10 * n' + q) = nI (min (cnt A n' q) 1000)) → (∀ q, q < r → I 134 (10 * (n + 1) + q) = nI (min (cnt A (n + 1) q) 1000)) → ∃ I', (∀ a, a ≠ 134 → I' a = I a) ∧ (∀ n', n' ≤ n + 1 → ∀ q, q < A.1 → I' 134 (10 * n' + q) = nI (min (cnt A n' q) 1000)) ∧ jval (d + 1) 191 47 [.ref 117, .int (nI k), .int (nI most), .int (nI (n + 1)), .int (nI r), jjunk, jjunk] [] (jGs L g, I, J) = jval (d + 1) 191 39 [.ref 117, .int (nI k), .int (nI most), .int (nI (n + 1 + 1)), jjunk, jjunk, jjunk] [] (jGs L g, I', J) := by
  intro m
  induction m with
  | zero =>
    intro r I hr hA h1 h2
    have h10 := hA.2.1
    have : r = A.1 := by omega
    subst this
    refine ⟨I, fun _ _ => rfl, fun n' hn' q hq => ?_, ?_⟩
    · by_cases h : n' = n + 1
      · subst h; exact h2 q hq
      · exact h1 n' (by omega) q hq
    · rw [e_TextValuesModel_counts_47, r_size d L g J hA, jcI_some, e_TextValuesModel_counts_54, jif_t (nI_le (Nat.le_refl _) (by omega)), nI_1]
  | succ m ih =>
    intro r I hr hA h1 h2
    have h10 := hA.2.1
    obtain ⟨I', q1, q2, q3⟩ := ih (r + 1) (ju I 134 (10 * (n + 1) + r) (nI (min (cnt A (n + 1) r) 1000))) (by omega) (mR_cg hA (fun c _ => zu_a (by omega))) (fun n' hn' q hq => by rw [zu_k (by omega)]; exact h1 n' hn' q hq) (fun q hq => by
      by_cases hqr : q = r
      · rw [hqr, zu_at]
      · rw [zu_k (by omega)]; exact h2 q (by omega))
    refine ⟨I', fun a ha => (q1 a ha).trans (ju_n ha), q2, ?_⟩
    rw [e_TextValuesModel_counts_47, r_size d L g J hA, jcI_some, e_TextValuesModel_counts_54, jif_f (nI_ge (by omega) (by omega)), show (0 : Int32) = nI 0 from rfl, r_counts_63 d L g J hA (by omega) hn (h1 n (Nat.le_refl _))]
    exact q3
theorem r_counts_39 {k most : Nat} {A : kA} (hm : most ≤ 220) : ∀ m n (I : Nat → Nat → Int32), n + m = most → mR I k A → (∀ n', n' ≤ n → ∀ q, q < A.1 → I 134 (10 * n' + q) = nI (min (cnt A n' q) 1000)) → ∃ I', (∀ a, a ≠ 134 → I' a = I a) ∧ (∀ n', n' ≤ most → ∀ q, q < A.1 → I' 134 (10 * n' + q) = nI (min (cnt A n' q) 1000)) ∧ jval (d + 1) 191 39 [.ref 117, .int (nI k), .int (nI most), .int (nI (n + 1)), jjunk, jjunk, jjunk] [] (jGs L g, I, J) = some (none, (jGs L g, I', J)) := by
  intro m
  induction m with
  | zero =>
    intro n I hn hA h
    have : n = most := by omega
    subst this
    refine ⟨I, fun _ _ => rfl, h, ?_⟩
    rw [e_TextValuesModel_counts_39, jif_t (nI_lt (by omega) (by omega))]
  | succ m ih =>
    intro n I hn hA h
    obtain ⟨I1, a1, a2, a3⟩ := r_counts_47 d L g J (most := most) (show n < 220 by omega) A.1 0 I (by omega) hA h (fun q hq => absurd hq (by omega))
    obtain ⟨I', q1, q2, q3⟩ := ih (n + 1) I1 (by omega) (mR_cg hA (fun c _ => by rw [a1 _ (by omega)])) a2
    refine ⟨I', fun a ha => (q1 a ha).trans (a1 a ha), q2, ?_⟩
    rw [e_TextValuesModel_counts_39, jif_f (nI_nlt (by omega) (by omega)), show (0 : Int32) = nI 0 from rfl, a3]
    exact q3
theorem r_counts {I : Nat → Nat → Int32} {k most : Nat} {A : kA} (hA : mR I k A) (hm : most ≤ 220) : ∃ I', (∀ a, a ≠ 134 → I' a = I a) ∧ (∀ n, n ≤ most → ∀ q, q < A.1 → I' 134 (10 * n + q) = nI (min (cnt A n q) 1000)) ∧ jcall (d + 3) 191 [.ref 117, .int (nI k), .int (nI most)] (jGs L g, I, J) = some (none, (jGs L g, I', J)) := by
  obtain ⟨I1, a1, a2, a3⟩ := r_counts_2 d L g J (most := most) A.1 0 I (by omega) hA (fun q hq => absurd hq (by omega))
  obtain ⟨I', q1, q2, q3⟩ := r_counts_39 (d + 1) L g J (k := k) hm most 0 I1 (by omega) (mR_cg hA (fun c _ => by rw [a1 _ (by omega)])) (fun n' hn' q hq => by
    have : n' = 0 := by omega
    subst this
    rw [Nat.mul_zero, Nat.zero_add]
    exact a2 q hq)
  refine ⟨I', fun a ha => (q1 a ha).trans (a1 a ha), q2, ?_⟩
  rw [c_TextValuesModel_counts, e_TextValuesModel_counts_0, show (0 : Int32) = nI 0 from rfl, a3]
  exact q3
/-- the least length below ten, or none -/
def lLo (A : kA) : Nat → Nat → Option Nat
  | 0, _ => none
  | f + 1, n => if cnt A n 0 = 0 then lLo A f (n + 1) else some n
def oI (o : Option Nat) : Int32 := match o with
  | none => -1
  | some n => nI n
theorem r_leastLength {I : Nat → Nat → Int32} {k : Nat} {A : kA} (hA : mR I k A) : ∃ I', (∀ a, a ≠ 134 → I' a = I a) ∧ jcall (d + 4) 192 [.ref 117, .int (nI k)] (jGs L g, I, J) = some (some (.int (oI (lLo A 10 0))), (jGs L g, I', J)) := by
  obtain ⟨I', q1, q2, q3⟩ := r_counts d L g J hA (most := 10) (by omega)
  have h0 := hA.2.2.1.1
  refine ⟨I', q1, ?_⟩
  have loop : ∀ f n, n + f = 10 → jval (d + 3) 192 9 [.ref 117, jjunk, .int (nI n)] [] (jGs L g, I', J) = some (some (.int (oI (lLo A f n))), (jGs L g, I', J)) := by
    intro f
    induction f with
    | zero =>
      intro n hn
      have : n = 10 := by omega
      subst this
      rw [e_TextValuesModel_leastLength_9, jif_t (by decide), e_TextValuesModel_leastLength_33, jif_t (by decide), e_TextValuesModel_leastLength_44]
      rfl
    | succ f ih =>
      intro n hn
      have hv := q2 n (by omega) 0 h0
      rw [Nat.add_zero] at hv
      rw [e_TextValuesModel_leastLength_9]
      rw [show lLo A (f + 1) n = (if cnt A n 0 = 0 then lLo A f (n + 1) else some n) from rfl]
      by_cases hz : cnt A n 0 = 0
      · rw [if_pos hz, ← ih (n + 1) (by omega)]
        rw [hz] at hv
        simp (disch := omega) only [li_0, li_1, li_2, li_3, li_4, li_5, li_6, li_7, li_8, li_9, li_10, li_11, li_12, li_13, li_14, li_15, li_16, li_17, li_18, li_19, li_20, li_21, li_22, li_23, li_24, li_25, li_26, li_27, li_28, li_29, li_30, li_31, li_32, li_33, li_34, li_35, li_36, li_37, li_38, li_39, li_40, li_41, li_42, li_43, li_44, li_45, li_46, li_47, li_48, li_49, li_50, li_51, li_52, li_53, li_54, li_55, li_56, li_57, li_58, li_59, li_60, li_61, li_62, li_63, li_64, li_65, li_66, li_67, li_68, li_69, li_70, li_71, li_72, li_73, li_74, li_75, li_76, li_77, li_78, li_79, li_80, li_81, li_82, li_83, li_84, li_85, li_86, li_87, li_88, li_89, li_90, li_91, li_92, li_93, li_94, li_95, li_96, li_97, li_98, li_99, li_100, li_101, li_102, li_103, li_104, li_105, li_106, li_107, li_108, li_109, li_110, li_111, li_112, li_113, li_114, li_115, li_116, li_117, li_118, li_119, li_120, li_121, li_122, li_123, li_124, li_125, li_126, li_127, li_128, li_160, li_219, li_220, li_248, li_249, li_250, li_251, li_255, li_999, li_1000, li_1023, li_1024, li_10240, li_999999, li_1048576, li_1048575, nI_add, nI_mul, zi_div, zi_eq, zi_le, zi_lt, zi_in, zi_c, zi_sub, zi_ofN, zi_m1e, zi_m1e', zi_m1lt, zi_m1le, zi_ltm1, zi_lem1, zi_m1m1, jif_T, jif_F, jif_t, jif_f, zb_1, zb_0, zb_01, zb_ft, zn_01a, zn_01b, zi_tst, zi_pow, cond_true, jcI_some, jcV_some, jcJ_some, Nat.reduceAdd, Nat.reduceMul, Nat.reduceSub, reduceCtorEq, Bool.true_eq_false, Bool.false_eq_true, zb_t, zb_f, Nat.add_zero, Nat.zero_add, Nat.mul_zero, Nat.zero_mul, or_true, true_or, or_false, false_or, and_true, true_and, and_false, false_and, not_true_eq_false, not_false_eq_true, hv, Nat.zero_min]
      · rw [if_neg hz]
        have hm : ¬ min (cnt A n 0) 1000 = 0 := by omega
        have hm2 : min (cnt A n 0) 1000 < 2147483648 := by omega
        simp (disch := omega) only [li_0, li_1, li_2, li_3, li_4, li_5, li_6, li_7, li_8, li_9, li_10, li_11, li_12, li_13, li_14, li_15, li_16, li_17, li_18, li_19, li_20, li_21, li_22, li_23, li_24, li_25, li_26, li_27, li_28, li_29, li_30, li_31, li_32, li_33, li_34, li_35, li_36, li_37, li_38, li_39, li_40, li_41, li_42, li_43, li_44, li_45, li_46, li_47, li_48, li_49, li_50, li_51, li_52, li_53, li_54, li_55, li_56, li_57, li_58, li_59, li_60, li_61, li_62, li_63, li_64, li_65, li_66, li_67, li_68, li_69, li_70, li_71, li_72, li_73, li_74, li_75, li_76, li_77, li_78, li_79, li_80, li_81, li_82, li_83, li_84, li_85, li_86, li_87, li_88, li_89, li_90, li_91, li_92, li_93, li_94, li_95, li_96, li_97, li_98, li_99, li_100, li_101, li_102, li_103, li_104, li_105, li_106, li_107, li_108, li_109, li_110, li_111, li_112, li_113, li_114, li_115, li_116, li_117, li_118, li_119, li_120, li_121, li_122, li_123, li_124, li_125, li_126, li_127, li_128, li_160, li_219, li_220, li_248, li_249, li_250, li_251, li_255, li_999, li_1000, li_1023, li_1024, li_10240, li_999999, li_1048576, li_1048575, nI_add, nI_mul, zi_div, zi_eq, zi_le, zi_lt, zi_in, zi_c, zi_sub, zi_ofN, zi_m1e, zi_m1e', zi_m1lt, zi_m1le, zi_ltm1, zi_lem1, zi_m1m1, jif_T, jif_F, jif_t, jif_f, zb_1, zb_0, zb_01, zb_ft, zn_01a, zn_01b, zi_tst, zi_pow, cond_true, jcI_some, jcV_some, jcJ_some, Nat.reduceAdd, Nat.reduceMul, Nat.reduceSub, reduceCtorEq, Bool.true_eq_false, Bool.false_eq_true, zb_t, zb_f, Nat.add_zero, Nat.zero_add, Nat.mul_zero, Nat.zero_mul, or_true, true_or, or_false, false_or, and_true, true_and, and_false, false_and, not_true_eq_false, not_false_eq_true, hv, hm]
        rw [e_TextValuesModel_leastLength_33]
        simp (disch := omega) only [li_0, li_1, li_2, li_3, li_4, li_5, li_6, li_7, li_8, li_9, li_10, li_11, li_12, li_13, li_14, li_15, li_16, li_17, li_18, li_19, li_20, li_21, li_22, li_23, li_24, li_25, li_26, li_27, li_28, li_29, li_30, li_31, li_32, li_33, li_34, li_35, li_36, li_37, li_38, li_39, li_40, li_41, li_42, li_43, li_44, li_45, li_46, li_47, li_48, li_49, li_50, li_51, li_52, li_53, li_54, li_55, li_56, li_57, li_58, li_59, li_60, li_61, li_62, li_63, li_64, li_65, li_66, li_67, li_68, li_69, li_70, li_71, li_72, li_73, li_74, li_75, li_76, li_77, li_78, li_79, li_80, li_81, li_82, li_83, li_84, li_85, li_86, li_87, li_88, li_89, li_90, li_91, li_92, li_93, li_94, li_95, li_96, li_97, li_98, li_99, li_100, li_101, li_102, li_103, li_104, li_105, li_106, li_107, li_108, li_109, li_110, li_111, li_112, li_113, li_114, li_115, li_116, li_117, li_118, li_119, li_120, li_121, li_122, li_123, li_124, li_125, li_126, li_127, li_128, li_160, li_219, li_220, li_248, li_249, li_250, li_251, li_255, li_999, li_1000, li_1023, li_1024, li_10240, li_999999, li_1048576, li_1048575, nI_add, nI_mul, zi_div, zi_eq, zi_le, zi_lt, zi_in, zi_c, zi_sub, zi_ofN, zi_m1e, zi_m1e', zi_m1lt, zi_m1le, zi_ltm1, zi_lem1, zi_m1m1, jif_T, jif_F, jif_t, jif_f, zb_1, zb_0, zb_01, zb_ft, zn_01a, zn_01b, zi_tst, zi_pow, cond_true, jcI_some, jcV_some, jcJ_some, Nat.reduceAdd, Nat.reduceMul, Nat.reduceSub, reduceCtorEq, Bool.true_eq_false, Bool.false_eq_true, zb_t, zb_f, Nat.add_zero, Nat.zero_add, Nat.mul_zero, Nat.zero_mul, or_true, true_or, or_false, false_or, and_true, true_and, and_false, false_and, not_true_eq_false, not_false_eq_true]
        rw [e_TextValuesModel_leastLength_44]
        rfl
  rw [c_TextValuesModel_leastLength, e_TextValuesModel_leastLength_0, show (10 : Int32) = nI 10 from rfl, q3, jcV_some, e_TextValuesModel_leastLength_7]
  exact loop 10 0 (by omega)
/-- the greatest length below twenty, or none -/
def gLo (A : kA) : Nat → Option Nat
  | 0 => none
  | n + 1 => if cnt A n 0 = 0 then gLo A n else some n
theorem gLo_lt (A : kA) : ∀ n m, gLo A n = some m → m < n
  | 0, m, h => by cases h
  | n + 1, m, h => by
    unfold gLo at h
    split at h
    · have := gLo_lt A n m h; omega
    · cases h; omega
def gLv (o : Option Nat) : Int32 := match o with
  | none => -1
  | some n => if n < 10 then nI n else nI 1000
theorem r_great_end {I' : Nat → Nat → Int32} {o : Option Nat} (ho : ∀ m, o = some m → m < 20) : jif ((10 : Int32) ≤ oI o) (jval d 193 54 [jjunk, jjunk, jjunk, jjunk] [.int (1000 : Int32)] (jGs L g, I', J)) (jval d 193 54 [jjunk, jjunk, jjunk, jjunk] [.int (oI o)] (jGs L g, I', J)) = some (some (.int (gLv o)), (jGs L g, I', J)) := by
  cases o with
  | none =>
    rw [jif_f (show ¬ (10 : Int32) ≤ oI none by decide), e_TextValuesModel_greatestLength_54]
    rfl
  | some m =>
    have hm := ho m rfl
    rw [show oI (some m) = nI m from rfl, show gLv (some m) = (if m < 10 then nI m else nI 1000) from rfl]
    by_cases h : m < 10
    · rw [jif_f (show ¬ (10 : Int32) ≤ nI m from nI_ge (a := m) (b := 10) h (by omega)), e_TextValuesModel_greatestLength_54, if_pos h]
    · rw [jif_t (show (10 : Int32) ≤ nI m from nI_le (a := 10) (b := m) (by omega) (by omega)), e_TextValuesModel_greatestLength_54, if_neg h]
      rfl
theorem r_great_loop {I' : Nat → Nat → Int32} {A : kA} {M : Nat} (hM : M = 20) (q2 : ∀ n, n ≤ 20 → I' 134 (10 * n) = nI (min (cnt A n 0) 1000)) : ∀ f n, n + f = M → jval d 193 11 [.ref 117, jjunk, .int (oI (gLo A n)), .int (nI n)] [] (jGs L g, I', J) = some (some (.int (gLv (gLo A M))), (jGs L g, I', J)) := by
  intro f
  induction f with
  | zero =>
    intro n hn
    have : n = M := by omega
    subst this
    have hl := gLo_lt A n
    generalize gLo A n = o at *
    rw [e_TextValuesModel_greatestLength_11, jif_t (show (20 : Int32) ≤ nI n from nI_le (a := 20) (b := n) (by omega) (by omega))]
    exact r_great_end d L g J (fun m hm => by have := hl m hm; omega)
  | succ f ih =>
    intro n hn
    have hv := q2 n (by omega)
    have hi := ih (n + 1) (by omega)
    rw [show gLo A (n + 1) = (if cnt A n 0 = 0 then gLo A n else some n) from rfl] at hi
    rw [e_TextValuesModel_greatestLength_11]
    by_cases hz : cnt A n 0 = 0
    · rw [if_pos hz] at hi
      rw [hz] at hv
      simp (disch := omega) only [li_0, li_1, li_2, li_3, li_4, li_5, li_6, li_7, li_8, li_9, li_10, li_11, li_12, li_13, li_14, li_15, li_16, li_17, li_18, li_19, li_20, li_21, li_22, li_23, li_24, li_25, li_26, li_27, li_28, li_29, li_30, li_31, li_32, li_33, li_34, li_35, li_36, li_37, li_38, li_39, li_40, li_41, li_42, li_43, li_44, li_45, li_46, li_47, li_48, li_49, li_50, li_51, li_52, li_53, li_54, li_55, li_56, li_57, li_58, li_59, li_60, li_61, li_62, li_63, li_64, li_65, li_66, li_67, li_68, li_69, li_70, li_71, li_72, li_73, li_74, li_75, li_76, li_77, li_78, li_79, li_80, li_81, li_82, li_83, li_84, li_85, li_86, li_87, li_88, li_89, li_90, li_91, li_92, li_93, li_94, li_95, li_96, li_97, li_98, li_99, li_100, li_101, li_102, li_103, li_104, li_105, li_106, li_107, li_108, li_109, li_110, li_111, li_112, li_113, li_114, li_115, li_116, li_117, li_118, li_119, li_120, li_121, li_122, li_123, li_124, li_125, li_126, li_127, li_128, li_160, li_219, li_220, li_248, li_249, li_250, li_251, li_255, li_999, li_1000, li_1023, li_1024, li_10240, li_999999, li_1048576, li_1048575, nI_add, nI_mul, zi_div, zi_eq, zi_le, zi_lt, zi_in, zi_c, zi_sub, zi_ofN, zi_m1e, zi_m1e', zi_m1lt, zi_m1le, zi_ltm1, zi_lem1, zi_m1m1, jif_T, jif_F, jif_t, jif_f, zb_1, zb_0, zb_01, zb_ft, zn_01a, zn_01b, zi_tst, zi_pow, cond_true, jcI_some, jcV_some, jcJ_some, Nat.reduceAdd, Nat.reduceMul, Nat.reduceSub, reduceCtorEq, Bool.true_eq_false, Bool.false_eq_true, zb_t, zb_f, Nat.add_zero, Nat.zero_add, Nat.mul_zero, Nat.zero_mul, or_true, true_or, or_false, false_or, and_true, true_and, and_false, false_and, not_true_eq_false, not_false_eq_true, hv, Nat.zero_min, Nat.le_refl]
      rw [e_TextValuesModel_greatestLength_34]
      simp (disch := omega) only [li_0, li_1, li_2, li_3, li_4, li_5, li_6, li_7, li_8, li_9, li_10, li_11, li_12, li_13, li_14, li_15, li_16, li_17, li_18, li_19, li_20, li_21, li_22, li_23, li_24, li_25, li_26, li_27, li_28, li_29, li_30, li_31, li_32, li_33, li_34, li_35, li_36, li_37, li_38, li_39, li_40, li_41, li_42, li_43, li_44, li_45, li_46, li_47, li_48, li_49, li_50, li_51, li_52, li_53, li_54, li_55, li_56, li_57, li_58, li_59, li_60, li_61, li_62, li_63, li_64, li_65, li_66, li_67, li_68, li_69, li_70, li_71, li_72, li_73, li_74, li_75, li_76, li_77, li_78, li_79, li_80, li_81, li_82, li_83, li_84, li_85, li_86, li_87, li_88, li_89, li_90, li_91, li_92, li_93, li_94, li_95, li_96, li_97, li_98, li_99, li_100, li_101, li_102, li_103, li_104, li_105, li_106, li_107, li_108, li_109, li_110, li_111, li_112, li_113, li_114, li_115, li_116, li_117, li_118, li_119, li_120, li_121, li_122, li_123, li_124, li_125, li_126, li_127, li_128, li_160, li_219, li_220, li_248, li_249, li_250, li_251, li_255, li_999, li_1000, li_1023, li_1024, li_10240, li_999999, li_1048576, li_1048575, nI_add, nI_mul, zi_div, zi_eq, zi_le, zi_lt, zi_in, zi_c, zi_sub, zi_ofN, zi_m1e, zi_m1e', zi_m1lt, zi_m1le, zi_ltm1, zi_lem1, zi_m1m1, jif_T, jif_F, jif_t, jif_f, zb_1, zb_0, zb_01, zb_ft, zn_01a, zn_01b, zi_tst, zi_pow, cond_true, jcI_some, jcV_some, jcJ_some, Nat.reduceAdd, Nat.reduceMul, Nat.reduceSub, reduceCtorEq, Bool.true_eq_false, Bool.false_eq_true, zb_t, zb_f, Nat.add_zero, Nat.zero_add, Nat.mul_zero, Nat.zero_mul, or_true, true_or, or_false, false_or, and_true, true_and, and_false, false_and, not_true_eq_false, not_false_eq_true]
      exact hi
    · rw [if_neg hz] at hi
      have hm : ¬ min (cnt A n 0) 1000 ≤ 0 := by omega
      have hm2 : min (cnt A n 0) 1000 < 2147483648 := by omega
      simp (disch := omega) only [li_0, li_1, li_2, li_3, li_4, li_5, li_6, li_7, li_8, li_9, li_10, li_11, li_12, li_13, li_14, li_15, li_16, li_17, li_18, li_19, li_20, li_21, li_22, li_23, li_24, li_25, li_26, li_27, li_28, li_29, li_30, li_31, li_32, li_33, li_34, li_35, li_36, li_37, li_38, li_39, li_40, li_41, li_42, li_43, li_44, li_45, li_46, li_47, li_48, li_49, li_50, li_51, li_52, li_53, li_54, li_55, li_56, li_57, li_58, li_59, li_60, li_61, li_62, li_63, li_64, li_65, li_66, li_67, li_68, li_69, li_70, li_71, li_72, li_73, li_74, li_75, li_76, li_77, li_78, li_79, li_80, li_81, li_82, li_83, li_84, li_85, li_86, li_87, li_88, li_89, li_90, li_91, li_92, li_93, li_94, li_95, li_96, li_97, li_98, li_99, li_100, li_101, li_102, li_103, li_104, li_105, li_106, li_107, li_108, li_109, li_110, li_111, li_112, li_113, li_114, li_115, li_116, li_117, li_118, li_119, li_120, li_121, li_122, li_123, li_124, li_125, li_126, li_127, li_128, li_160, li_219, li_220, li_248, li_249, li_250, li_251, li_255, li_999, li_1000, li_1023, li_1024, li_10240, li_999999, li_1048576, li_1048575, nI_add, nI_mul, zi_div, zi_eq, zi_le, zi_lt, zi_in, zi_c, zi_sub, zi_ofN, zi_m1e, zi_m1e', zi_m1lt, zi_m1le, zi_ltm1, zi_lem1, zi_m1m1, jif_T, jif_F, jif_t, jif_f, zb_1, zb_0, zb_01, zb_ft, zn_01a, zn_01b, zi_tst, zi_pow, cond_true, jcI_some, jcV_some, jcJ_some, Nat.reduceAdd, Nat.reduceMul, Nat.reduceSub, reduceCtorEq, Bool.true_eq_false, Bool.false_eq_true, zb_t, zb_f, Nat.add_zero, Nat.zero_add, Nat.mul_zero, Nat.zero_mul, or_true, true_or, or_false, false_or, and_true, true_and, and_false, false_and, not_true_eq_false, not_false_eq_true, hv, hm]
      rw [e_TextValuesModel_greatestLength_34]
      simp (disch := omega) only [li_0, li_1, li_2, li_3, li_4, li_5, li_6, li_7, li_8, li_9, li_10, li_11, li_12, li_13, li_14, li_15, li_16, li_17, li_18, li_19, li_20, li_21, li_22, li_23, li_24, li_25, li_26, li_27, li_28, li_29, li_30, li_31, li_32, li_33, li_34, li_35, li_36, li_37, li_38, li_39, li_40, li_41, li_42, li_43, li_44, li_45, li_46, li_47, li_48, li_49, li_50, li_51, li_52, li_53, li_54, li_55, li_56, li_57, li_58, li_59, li_60, li_61, li_62, li_63, li_64, li_65, li_66, li_67, li_68, li_69, li_70, li_71, li_72, li_73, li_74, li_75, li_76, li_77, li_78, li_79, li_80, li_81, li_82, li_83, li_84, li_85, li_86, li_87, li_88, li_89, li_90, li_91, li_92, li_93, li_94, li_95, li_96, li_97, li_98, li_99, li_100, li_101, li_102, li_103, li_104, li_105, li_106, li_107, li_108, li_109, li_110, li_111, li_112, li_113, li_114, li_115, li_116, li_117, li_118, li_119, li_120, li_121, li_122, li_123, li_124, li_125, li_126, li_127, li_128, li_160, li_219, li_220, li_248, li_249, li_250, li_251, li_255, li_999, li_1000, li_1023, li_1024, li_10240, li_999999, li_1048576, li_1048575, nI_add, nI_mul, zi_div, zi_eq, zi_le, zi_lt, zi_in, zi_c, zi_sub, zi_ofN, zi_m1e, zi_m1e', zi_m1lt, zi_m1le, zi_ltm1, zi_lem1, zi_m1m1, jif_T, jif_F, jif_t, jif_f, zb_1, zb_0, zb_01, zb_ft, zn_01a, zn_01b, zi_tst, zi_pow, cond_true, jcI_some, jcV_some, jcJ_some, Nat.reduceAdd, Nat.reduceMul, Nat.reduceSub, reduceCtorEq, Bool.true_eq_false, Bool.false_eq_true, zb_t, zb_f, Nat.add_zero, Nat.zero_add, Nat.mul_zero, Nat.zero_mul, or_true, true_or, or_false, false_or, and_true, true_and, and_false, false_and, not_true_eq_false, not_false_eq_true]
      exact hi
theorem r_greatestLength {I : Nat → Nat → Int32} {k : Nat} {A : kA} (hA : mR I k A) : ∃ I', (∀ a, a ≠ 134 → I' a = I a) ∧ jcall (d + 4) 193 [.ref 117, .int (nI k)] (jGs L g, I, J) = some (some (.int (gLv (gLo A 20))), (jGs L g, I', J)) := by
  obtain ⟨I', q1, q2, q3⟩ := r_counts d L g J hA (most := 20) (by omega)
  have h0 := hA.2.2.1.1
  have hl := r_great_loop (d + 3) L g J (I' := I') (A := A) (M := 20) rfl (fun n hn => by have := q2 n hn 0 h0; rw [Nat.add_zero] at this; exact this) 20 0 rfl
  refine ⟨I', q1, ?_⟩
  rw [c_TextValuesModel_greatestLength, e_TextValuesModel_greatestLength_0, show (20 : Int32) = nI 20 from rfl, q3, jcV_some, e_TextValuesModel_greatestLength_7, show (-1 : Int32) = oI (gLo A 0) from rfl, show (0 : Int32) = nI 0 from rfl]
  exact hl
end MM

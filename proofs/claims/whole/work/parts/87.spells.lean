/-! THE REFERENCE: the k-th text; how many of a length -/
set_option maxRecDepth 100000
section MM
variable (d L : Nat) (g : jG) (J : Nat → Nat → Int64)
theorem r_sp_13 {I : Nat → Nat → Int32} {k : Nat} {A : kA} {M : Nat} (hM : M = 220) (hw : ∀ n, n < 220 → I 134 (10 * n) = nI (min (cnt A n 0) 1000)) : ∀ f n j, n + f = M → j < 1000 → (∃ n' j', n' < 220 ∧ j' ≤ j ∧ j' < cnt A n' 0 ∧ fTg A f n j = some (spl A n' 0 j') ∧ jval d 194 13 [.ref 117, .int (nI k), jjunk, .int (nI j), .int (nI n), jjunk, jjunk, jjunk, jjunk] [] (jGs L g, I, J) = jval d 194 54 [.ref 117, .int (nI k), jjunk, .int (nI j'), .int (nI n'), jjunk, jjunk, jjunk, jjunk] [] (jGs L g, I, J)) ∨ (fTg A f n j = none ∧ ∃ j', jval d 194 13 [.ref 117, .int (nI k), jjunk, .int (nI j), .int (nI n), jjunk, jjunk, jjunk, jjunk] [] (jGs L g, I, J) = jval d 194 54 [.ref 117, .int (nI k), jjunk, .int (nI j'), .int (nI 220), jjunk, jjunk, jjunk, jjunk] [] (jGs L g, I, J)) := by
  intro f
  induction f with
  | zero =>
    intro n j hn hj
    have : n = 220 := by omega
    subst this
    exact Or.inr ⟨rfl, j, by rw [e_TextValuesModel_spells_13, jif_t (by decide)]⟩
  | succ f ih =>
    intro n j hn hj
    have hv := hw n (by omega)
    have hm2 : min (cnt A n 0) 1000 < 2147483648 := by omega
    rw [show fTg A (f + 1) n j = (if j < cnt A n 0 then some (spl A n 0 j) else fTg A f (n + 1) (j - cnt A n 0)) from rfl]
    by_cases hlt : j < cnt A n 0
    · left
      have hm : j < min (cnt A n 0) 1000 := by omega
      refine ⟨n, j, by omega, Nat.le_refl _, hlt, by rw [if_pos hlt], ?_⟩
      rw [e_TextValuesModel_spells_13]
      simp (disch := omega) only [li_0, li_1, li_2, li_3, li_4, li_5, li_6, li_7, li_8, li_9, li_10, li_11, li_12, li_13, li_14, li_15, li_16, li_17, li_18, li_19, li_20, li_21, li_22, li_23, li_24, li_25, li_26, li_27, li_28, li_29, li_30, li_31, li_32, li_33, li_34, li_35, li_36, li_37, li_38, li_39, li_40, li_41, li_42, li_43, li_44, li_45, li_46, li_47, li_48, li_49, li_50, li_51, li_52, li_53, li_54, li_55, li_56, li_57, li_58, li_59, li_60, li_61, li_62, li_63, li_64, li_65, li_66, li_67, li_68, li_69, li_70, li_71, li_72, li_73, li_74, li_75, li_76, li_77, li_78, li_79, li_80, li_81, li_82, li_83, li_84, li_85, li_86, li_87, li_88, li_89, li_90, li_91, li_92, li_93, li_94, li_95, li_96, li_97, li_98, li_99, li_100, li_101, li_102, li_103, li_104, li_105, li_106, li_107, li_108, li_109, li_110, li_111, li_112, li_113, li_114, li_115, li_116, li_117, li_118, li_119, li_120, li_121, li_122, li_123, li_124, li_125, li_126, li_127, li_128, li_160, li_219, li_220, li_248, li_249, li_250, li_251, li_255, li_999, li_1000, li_1023, li_1024, li_10240, li_999999, li_1048576, li_1048575, nI_add, nI_mul, zi_div, zi_eq, zi_le, zi_lt, zi_in, zi_c, zi_sub, zi_ofN, zi_m1e, zi_m1e', zi_m1lt, zi_m1le, zi_ltm1, zi_lem1, zi_m1m1, jif_T, jif_F, jif_t, jif_f, zb_1, zb_0, zb_01, zb_ft, zn_01a, zn_01b, zi_tst, zi_pow, cond_true, jcI_some, jcV_some, jcJ_some, Nat.reduceAdd, Nat.reduceMul, Nat.reduceSub, reduceCtorEq, Bool.true_eq_false, Bool.false_eq_true, zb_t, zb_f, Nat.add_zero, Nat.zero_add, Nat.mul_zero, Nat.zero_mul, or_true, true_or, or_false, false_or, and_true, true_and, and_false, false_and, not_true_eq_false, not_false_eq_true, hv, hm]
    · have hm : ¬ j < min (cnt A n 0) 1000 := by omega
      have he : min (cnt A n 0) 1000 = cnt A n 0 := by omega
      have step : jval d 194 13 [.ref 117, .int (nI k), jjunk, .int (nI j), .int (nI n), jjunk, jjunk, jjunk, jjunk] [] (jGs L g, I, J) = jval d 194 13 [.ref 117, .int (nI k), jjunk, .int (nI (j - cnt A n 0)), .int (nI (n + 1)), jjunk, jjunk, jjunk, jjunk] [] (jGs L g, I, J) := by
        rw [e_TextValuesModel_spells_13]
        simp (disch := omega) only [li_0, li_1, li_2, li_3, li_4, li_5, li_6, li_7, li_8, li_9, li_10, li_11, li_12, li_13, li_14, li_15, li_16, li_17, li_18, li_19, li_20, li_21, li_22, li_23, li_24, li_25, li_26, li_27, li_28, li_29, li_30, li_31, li_32, li_33, li_34, li_35, li_36, li_37, li_38, li_39, li_40, li_41, li_42, li_43, li_44, li_45, li_46, li_47, li_48, li_49, li_50, li_51, li_52, li_53, li_54, li_55, li_56, li_57, li_58, li_59, li_60, li_61, li_62, li_63, li_64, li_65, li_66, li_67, li_68, li_69, li_70, li_71, li_72, li_73, li_74, li_75, li_76, li_77, li_78, li_79, li_80, li_81, li_82, li_83, li_84, li_85, li_86, li_87, li_88, li_89, li_90, li_91, li_92, li_93, li_94, li_95, li_96, li_97, li_98, li_99, li_100, li_101, li_102, li_103, li_104, li_105, li_106, li_107, li_108, li_109, li_110, li_111, li_112, li_113, li_114, li_115, li_116, li_117, li_118, li_119, li_120, li_121, li_122, li_123, li_124, li_125, li_126, li_127, li_128, li_160, li_219, li_220, li_248, li_249, li_250, li_251, li_255, li_999, li_1000, li_1023, li_1024, li_10240, li_999999, li_1048576, li_1048575, nI_add, nI_mul, zi_div, zi_eq, zi_le, zi_lt, zi_in, zi_c, zi_sub, zi_ofN, zi_m1e, zi_m1e', zi_m1lt, zi_m1le, zi_ltm1, zi_lem1, zi_m1m1, jif_T, jif_F, jif_t, jif_f, zb_1, zb_0, zb_01, zb_ft, zn_01a, zn_01b, zi_tst, zi_pow, cond_true, jcI_some, jcV_some, jcJ_some, Nat.reduceAdd, Nat.reduceMul, Nat.reduceSub, reduceCtorEq, Bool.true_eq_false, Bool.false_eq_true, zb_t, zb_f, Nat.add_zero, Nat.zero_add, Nat.mul_zero, Nat.zero_mul, or_true, true_or, or_false, false_or, and_true, true_and, and_false, false_and, not_true_eq_false, not_false_eq_true, hv, hm, he]
      rw [if_neg hlt, step]
      rcases ih (n + 1) (j - cnt A n 0) (by omega) (by omega) with ⟨n', j', h1, h2, h3, h4, h5⟩ | ⟨h1, j', h2⟩
      · exact Or.inl ⟨n', j', h1, by omega, h3, h4, h5⟩
      · exact Or.inr ⟨h1, j', h2⟩
theorem r_sp_110 {I : Nat → Nat → Int32} {k n i m q l j : Nat} {A : kA} (hA : mR I k A) (hk : k < 55) (hn : n < 220) (him : i + m + 1 = n) (hq : q < A.1) (hl : l < 3) (hj : j < cnt A m (A.2.2 q l)) (hj2 : j < 1000) : jval (d + 1) 194 110 [.ref 117, .int (nI k), jjunk, .int (nI j), .int (nI n), .int (nI q), .int (nI i), .int (nI l), .int (nI (min (cnt A m (A.2.2 q l)) 1000))] [] (jGs L g, I, J) = jval (d + 1) 194 66 [.ref 117, .int (nI k), jjunk, .int (nI j), .int (nI n), .int (nI (A.2.2 q l)), .int (nI (i + 1)), jjunk, jjunk] [] (jGs L g, ju I 135 i (nI l), J) := by
  have hA' := mR_cg (I' := ju I 135 i (nI l)) hA (fun c _ => zu_a (by omega))
  have hm : j < min (cnt A m (A.2.2 q l)) 1000 := by omega
  have hm2 : min (cnt A m (A.2.2 q l)) 1000 < 2147483648 := by omega
  rw [e_TextValuesModel_spells_110]
  simp (disch := omega) only [li_0, li_1, li_2, li_3, li_4, li_5, li_6, li_7, li_8, li_9, li_10, li_11, li_12, li_13, li_14, li_15, li_16, li_17, li_18, li_19, li_20, li_21, li_22, li_23, li_24, li_25, li_26, li_27, li_28, li_29, li_30, li_31, li_32, li_33, li_34, li_35, li_36, li_37, li_38, li_39, li_40, li_41, li_42, li_43, li_44, li_45, li_46, li_47, li_48, li_49, li_50, li_51, li_52, li_53, li_54, li_55, li_56, li_57, li_58, li_59, li_60, li_61, li_62, li_63, li_64, li_65, li_66, li_67, li_68, li_69, li_70, li_71, li_72, li_73, li_74, li_75, li_76, li_77, li_78, li_79, li_80, li_81, li_82, li_83, li_84, li_85, li_86, li_87, li_88, li_89, li_90, li_91, li_92, li_93, li_94, li_95, li_96, li_97, li_98, li_99, li_100, li_101, li_102, li_103, li_104, li_105, li_106, li_107, li_108, li_109, li_110, li_111, li_112, li_113, li_114, li_115, li_116, li_117, li_118, li_119, li_120, li_121, li_122, li_123, li_124, li_125, li_126, li_127, li_128, li_160, li_219, li_220, li_248, li_249, li_250, li_251, li_255, li_999, li_1000, li_1023, li_1024, li_10240, li_999999, li_1048576, li_1048575, nI_add, nI_mul, zi_div, zi_eq, zi_le, zi_lt, zi_in, zi_c, zi_sub, zi_ofN, zi_m1e, zi_m1e', zi_m1lt, zi_m1le, zi_ltm1, zi_lem1, zi_m1m1, jif_T, jif_F, jif_t, jif_f, zb_1, zb_0, zb_01, zb_ft, zn_01a, zn_01b, zi_tst, zi_pow, cond_true, jcI_some, jcV_some, jcJ_some, Nat.reduceAdd, Nat.reduceMul, Nat.reduceSub, reduceCtorEq, Bool.true_eq_false, Bool.false_eq_true, zb_t, zb_f, Nat.add_zero, Nat.zero_add, Nat.mul_zero, Nat.zero_mul, or_true, true_or, or_false, false_or, and_true, true_and, and_false, false_and, not_true_eq_false, not_false_eq_true, hm, r_to d L g J hA']
  rw [e_TextValuesModel_spells_172, nI_1]
theorem r_sp_110n {I : Nat → Nat → Int32} {k n i m q l j : Nat} {A : kA} (hA : mR I k A) (hn : n < 220) (him : i + m + 1 = n) (hq : q < A.1) (hl : l < 2) (hj : ¬ j < cnt A m (A.2.2 q l)) (hj2 : j < 1000) (hw : ∀ n, n < 220 → ∀ q, q < A.1 → I 134 (10 * n + q) = nI (min (cnt A n q) 1000)) : jval (d + 1) 194 110 [.ref 117, .int (nI k), jjunk, .int (nI j), .int (nI n), .int (nI q), .int (nI i), .int (nI l), .int (nI (min (cnt A m (A.2.2 q l)) 1000))] [] (jGs L g, I, J) = jval (d + 1) 194 110 [.ref 117, .int (nI k), jjunk, .int (nI (j - cnt A m (A.2.2 q l))), .int (nI n), .int (nI q), .int (nI i), .int (nI (l + 1)), .int (nI (min (cnt A m (A.2.2 q (l + 1))) 1000))] [] (jGs L g, I, J) := by
  have hm : ¬ j < min (cnt A m (A.2.2 q l)) 1000 := by omega
  have he : min (cnt A m (A.2.2 q l)) 1000 = cnt A m (A.2.2 q l) := by omega
  have h10 := hA.2.1
  have ht := hA.2.2.1.2 q hq (l + 1) (by omega)
  have hv := hw m (by omega) _ ht
  have e1 : n - 1 - i = m := by omega
  rw [e_TextValuesModel_spells_110, he]
  rw [he] at hm
  have hm2 : cnt A m (A.2.2 q l) < 2147483648 := by omega
  simp (disch := omega) only [li_0, li_1, li_2, li_3, li_4, li_5, li_6, li_7, li_8, li_9, li_10, li_11, li_12, li_13, li_14, li_15, li_16, li_17, li_18, li_19, li_20, li_21, li_22, li_23, li_24, li_25, li_26, li_27, li_28, li_29, li_30, li_31, li_32, li_33, li_34, li_35, li_36, li_37, li_38, li_39, li_40, li_41, li_42, li_43, li_44, li_45, li_46, li_47, li_48, li_49, li_50, li_51, li_52, li_53, li_54, li_55, li_56, li_57, li_58, li_59, li_60, li_61, li_62, li_63, li_64, li_65, li_66, li_67, li_68, li_69, li_70, li_71, li_72, li_73, li_74, li_75, li_76, li_77, li_78, li_79, li_80, li_81, li_82, li_83, li_84, li_85, li_86, li_87, li_88, li_89, li_90, li_91, li_92, li_93, li_94, li_95, li_96, li_97, li_98, li_99, li_100, li_101, li_102, li_103, li_104, li_105, li_106, li_107, li_108, li_109, li_110, li_111, li_112, li_113, li_114, li_115, li_116, li_117, li_118, li_119, li_120, li_121, li_122, li_123, li_124, li_125, li_126, li_127, li_128, li_160, li_219, li_220, li_248, li_249, li_250, li_251, li_255, li_999, li_1000, li_1023, li_1024, li_10240, li_999999, li_1048576, li_1048575, nI_add, nI_mul, zi_div, zi_eq, zi_le, zi_lt, zi_in, zi_c, zi_sub, zi_ofN, zi_m1e, zi_m1e', zi_m1lt, zi_m1le, zi_ltm1, zi_lem1, zi_m1m1, jif_T, jif_F, jif_t, jif_f, zb_1, zb_0, zb_01, zb_ft, zn_01a, zn_01b, zi_tst, zi_pow, cond_true, jcI_some, jcV_some, jcJ_some, Nat.reduceAdd, Nat.reduceMul, Nat.reduceSub, reduceCtorEq, Bool.true_eq_false, Bool.false_eq_true, zb_t, zb_f, Nat.add_zero, Nat.zero_add, Nat.mul_zero, Nat.zero_mul, or_true, true_or, or_false, false_or, and_true, true_and, and_false, false_and, not_true_eq_false, not_false_eq_true, hm, r_to d L g J hA, e1]
  rw [e_TextValuesModel_spells_147]
  simp (disch := omega) only [li_0, li_1, li_2, li_3, li_4, li_5, li_6, li_7, li_8, li_9, li_10, li_11, li_12, li_13, li_14, li_15, li_16, li_17, li_18, li_19, li_20, li_21, li_22, li_23, li_24, li_25, li_26, li_27, li_28, li_29, li_30, li_31, li_32, li_33, li_34, li_35, li_36, li_37, li_38, li_39, li_40, li_41, li_42, li_43, li_44, li_45, li_46, li_47, li_48, li_49, li_50, li_51, li_52, li_53, li_54, li_55, li_56, li_57, li_58, li_59, li_60, li_61, li_62, li_63, li_64, li_65, li_66, li_67, li_68, li_69, li_70, li_71, li_72, li_73, li_74, li_75, li_76, li_77, li_78, li_79, li_80, li_81, li_82, li_83, li_84, li_85, li_86, li_87, li_88, li_89, li_90, li_91, li_92, li_93, li_94, li_95, li_96, li_97, li_98, li_99, li_100, li_101, li_102, li_103, li_104, li_105, li_106, li_107, li_108, li_109, li_110, li_111, li_112, li_113, li_114, li_115, li_116, li_117, li_118, li_119, li_120, li_121, li_122, li_123, li_124, li_125, li_126, li_127, li_128, li_160, li_219, li_220, li_248, li_249, li_250, li_251, li_255, li_999, li_1000, li_1023, li_1024, li_10240, li_999999, li_1048576, li_1048575, nI_add, nI_mul, zi_div, zi_eq, zi_le, zi_lt, zi_in, zi_c, zi_sub, zi_ofN, zi_m1e, zi_m1e', zi_m1lt, zi_m1le, zi_ltm1, zi_lem1, zi_m1m1, jif_T, jif_F, jif_t, jif_f, zb_1, zb_0, zb_01, zb_ft, zn_01a, zn_01b, zi_tst, zi_pow, cond_true, jcI_some, jcV_some, jcJ_some, Nat.reduceAdd, Nat.reduceMul, Nat.reduceSub, reduceCtorEq, Bool.true_eq_false, Bool.false_eq_true, zb_t, zb_f, Nat.add_zero, Nat.zero_add, Nat.mul_zero, Nat.zero_mul, or_true, true_or, or_false, false_or, and_true, true_and, and_false, false_and, not_true_eq_false, not_false_eq_true, hv]
theorem r_sp_66 {k n : Nat} {A : kA} (hk : k < 55) (hn : n < 220) : ∀ m i q j (I : Nat → Nat → Int32), i + m = n → q < A.1 → j < cnt A m q → j < 1000 → mR I k A → (∀ n, n < 220 → ∀ q, q < A.1 → I 134 (10 * n + q) = nI (min (cnt A n q) 1000)) → ∃ I', (∀ a, a ≠ 135 → I' a = I a) ∧ (∀ x, x < i → I' 135 x = I 135 x) ∧ (∀ x, x < m → I' 135 (i + x) = nI ((spl A m q j).getD x 0)) ∧ jval (d + 1) 194 66 [.ref 117, .int (nI k), jjunk, .int (nI j), .int (nI n), .int (nI q), .int (nI i), jjunk, jjunk] [] (jGs L g, I, J) = jval (d + 1) 194 180 [jjunk, jjunk, jjunk, jjunk, .int (nI n), jjunk, jjunk, jjunk, jjunk] [] (jGs L g, I', J) := by
  intro m
  induction m with
  | zero =>
    intro i q j I hi hq hj hj2 hA hw
    have : i = n := by omega
    subst this
    refine ⟨I, fun _ _ => rfl, fun _ _ => rfl, fun x hx => absurd hx (by omega), ?_⟩
    rw [e_TextValuesModel_spells_66, jif_t (nI_le (Nat.le_refl _) (by omega))]
  | succ m ih =>
    intro i q j I hi hq hj hj2 hA hw
    have h10 := hA.2.1
    have wA := hA.2.2.1
    have e1 : n - 1 - i = m := by omega
    have ht0 := wA.2 q hq 0 (by omega)
    have hv0 := hw m (by omega) _ ht0
    have start : jval (d + 1) 194 66 [.ref 117, .int (nI k), jjunk, .int (nI j), .int (nI n), .int (nI q), .int (nI i), jjunk, jjunk] [] (jGs L g, I, J) = jval (d + 1) 194 110 [.ref 117, .int (nI k), jjunk, .int (nI j), .int (nI n), .int (nI q), .int (nI i), .int (nI 0), .int (nI (min (cnt A m (A.2.2 q 0)) 1000))] [] (jGs L g, I, J) := by
      rw [e_TextValuesModel_spells_66]
      simp (disch := omega) only [li_0, li_1, li_2, li_3, li_4, li_5, li_6, li_7, li_8, li_9, li_10, li_11, li_12, li_13, li_14, li_15, li_16, li_17, li_18, li_19, li_20, li_21, li_22, li_23, li_24, li_25, li_26, li_27, li_28, li_29, li_30, li_31, li_32, li_33, li_34, li_35, li_36, li_37, li_38, li_39, li_40, li_41, li_42, li_43, li_44, li_45, li_46, li_47, li_48, li_49, li_50, li_51, li_52, li_53, li_54, li_55, li_56, li_57, li_58, li_59, li_60, li_61, li_62, li_63, li_64, li_65, li_66, li_67, li_68, li_69, li_70, li_71, li_72, li_73, li_74, li_75, li_76, li_77, li_78, li_79, li_80, li_81, li_82, li_83, li_84, li_85, li_86, li_87, li_88, li_89, li_90, li_91, li_92, li_93, li_94, li_95, li_96, li_97, li_98, li_99, li_100, li_101, li_102, li_103, li_104, li_105, li_106, li_107, li_108, li_109, li_110, li_111, li_112, li_113, li_114, li_115, li_116, li_117, li_118, li_119, li_120, li_121, li_122, li_123, li_124, li_125, li_126, li_127, li_128, li_160, li_219, li_220, li_248, li_249, li_250, li_251, li_255, li_999, li_1000, li_1023, li_1024, li_10240, li_999999, li_1048576, li_1048575, nI_add, nI_mul, zi_div, zi_eq, zi_le, zi_lt, zi_in, zi_c, zi_sub, zi_ofN, zi_m1e, zi_m1e', zi_m1lt, zi_m1le, zi_ltm1, zi_lem1, zi_m1m1, jif_T, jif_F, jif_t, jif_f, zb_1, zb_0, zb_01, zb_ft, zn_01a, zn_01b, zi_tst, zi_pow, cond_true, jcI_some, jcV_some, jcJ_some, Nat.reduceAdd, Nat.reduceMul, Nat.reduceSub, reduceCtorEq, Bool.true_eq_false, Bool.false_eq_true, zb_t, zb_f, Nat.add_zero, Nat.zero_add, Nat.mul_zero, Nat.zero_mul, or_true, true_or, or_false, false_or, and_true, true_and, and_false, false_and, not_true_eq_false, not_false_eq_true, r_to d L g J hA, e1]
      rw [e_TextValuesModel_spells_106]
      simp (disch := omega) only [li_0, li_1, li_2, li_3, li_4, li_5, li_6, li_7, li_8, li_9, li_10, li_11, li_12, li_13, li_14, li_15, li_16, li_17, li_18, li_19, li_20, li_21, li_22, li_23, li_24, li_25, li_26, li_27, li_28, li_29, li_30, li_31, li_32, li_33, li_34, li_35, li_36, li_37, li_38, li_39, li_40, li_41, li_42, li_43, li_44, li_45, li_46, li_47, li_48, li_49, li_50, li_51, li_52, li_53, li_54, li_55, li_56, li_57, li_58, li_59, li_60, li_61, li_62, li_63, li_64, li_65, li_66, li_67, li_68, li_69, li_70, li_71, li_72, li_73, li_74, li_75, li_76, li_77, li_78, li_79, li_80, li_81, li_82, li_83, li_84, li_85, li_86, li_87, li_88, li_89, li_90, li_91, li_92, li_93, li_94, li_95, li_96, li_97, li_98, li_99, li_100, li_101, li_102, li_103, li_104, li_105, li_106, li_107, li_108, li_109, li_110, li_111, li_112, li_113, li_114, li_115, li_116, li_117, li_118, li_119, li_120, li_121, li_122, li_123, li_124, li_125, li_126, li_127, li_128, li_160, li_219, li_220, li_248, li_249, li_250, li_251, li_255, li_999, li_1000, li_1023, li_1024, li_10240, li_999999, li_1048576, li_1048575, nI_add, nI_mul, zi_div, zi_eq, zi_le, zi_lt, zi_in, zi_c, zi_sub, zi_ofN, zi_m1e, zi_m1e', zi_m1lt, zi_m1le, zi_ltm1, zi_lem1, zi_m1m1, jif_T, jif_F, jif_t, jif_f, zb_1, zb_0, zb_01, zb_ft, zn_01a, zn_01b, zi_tst, zi_pow, cond_true, jcI_some, jcV_some, jcJ_some, Nat.reduceAdd, Nat.reduceMul, Nat.reduceSub, reduceCtorEq, Bool.true_eq_false, Bool.false_eq_true, zb_t, zb_f, Nat.add_zero, Nat.zero_add, Nat.mul_zero, Nat.zero_mul, or_true, true_or, or_false, false_or, and_true, true_and, and_false, false_and, not_true_eq_false, not_false_eq_true, hv0]
    have hsum : j < cnt A m (A.2.2 q 0) + cnt A m (A.2.2 q 1) + cnt A m (A.2.2 q 2) := hj
    have fin : ∀ l j', l < 3 → j' < cnt A m (A.2.2 q l) → j' < 1000 → spl A (m + 1) q j = l :: spl A m (A.2.2 q l) j' → ∃ I', (∀ a, a ≠ 135 → I' a = I a) ∧ (∀ x, x < i → I' 135 x = I 135 x) ∧ (∀ x, x < m + 1 → I' 135 (i + x) = nI ((spl A (m + 1) q j).getD x 0)) ∧ jval (d + 1) 194 110 [.ref 117, .int (nI k), jjunk, .int (nI j'), .int (nI n), .int (nI q), .int (nI i), .int (nI l), .int (nI (min (cnt A m (A.2.2 q l)) 1000))] [] (jGs L g, I, J) = jval (d + 1) 194 180 [jjunk, jjunk, jjunk, jjunk, .int (nI n), jjunk, jjunk, jjunk, jjunk] [] (jGs L g, I', J) := by
      intro l j' hl hj' hj2' hs
      obtain ⟨I', q1, q2, q3, q4⟩ := ih (i + 1) (A.2.2 q l) j' (ju I 135 i (nI l)) (by omega) (wA.2 q hq l hl) hj' hj2' (mR_cg hA (fun c _ => zu_a (by omega))) (fun n hn q hq => by rw [zu_a (by omega)]; exact hw n hn q hq)
      refine ⟨I', fun a ha => (q1 a ha).trans (ju_n ha), fun x hx => by rw [q2 x (by omega), zu_k (by omega)], fun x hx => ?_, ?_⟩
      · rw [hs]
        cases x with
        | zero => rw [Nat.add_zero, q2 i (by omega), zu_at]; rfl
        | succ x =>
          have := q3 x (by omega)
          rw [show i + 1 + x = i + (x + 1) by omega] at this
          rw [this]
          rfl
      · rw [r_sp_110 d L g J hA hk hn (by omega) hq hl hj' hj2', q4]
    rw [start]
    have hspl : spl A (m + 1) q j = (if j < cnt A m (A.2.2 q 0) then 0 :: spl A m (A.2.2 q 0) j else if j < cnt A m (A.2.2 q 0) + cnt A m (A.2.2 q 1) then 1 :: spl A m (A.2.2 q 1) (j - cnt A m (A.2.2 q 0)) else 2 :: spl A m (A.2.2 q 2) (j - cnt A m (A.2.2 q 0) - cnt A m (A.2.2 q 1))) := rfl
    by_cases h0 : j < cnt A m (A.2.2 q 0)
    · exact fin 0 j (by omega) h0 hj2 (by rw [hspl, if_pos h0])
    · rw [r_sp_110n d L g J hA hn (by omega) hq (by omega) h0 hj2 hw]
      by_cases h1 : j < cnt A m (A.2.2 q 0) + cnt A m (A.2.2 q 1)
      · exact fin 1 (j - cnt A m (A.2.2 q 0)) (by omega) (by omega) (by omega) (by rw [hspl, if_neg h0, if_pos h1])
      · rw [show (0 + 1 : Nat) = 1 from rfl, r_sp_110n d L g J hA hn (by omega) hq (by omega) (show ¬ j - cnt A m (A.2.2 q 0) < cnt A m (A.2.2 q 1) by omega) (by omega) hw]
        exact fin 2 (j - cnt A m (A.2.2 q 0) - cnt A m (A.2.2 q 1)) (by omega) (by omega) (by omega) (by rw [hspl, if_neg h0, if_neg h1])
/-- what a search of a text leaves -/
def spR (I I' : Nat → Nat → Int32) : Prop := (∀ a, a ≠ 134 → a ≠ 135 → a ≠ 117 → I' a = I a) ∧ ∀ j, j ≠ 32 → I' 117 j = I 117 j
theorem r_spells {I : Nat → Nat → Int32} {k j : Nat} {A : kA} (hA : mR I k A) (hk : k < 55) (hj : j < 1000) : ∃ I', spR I I' ∧ ((∃ w, fT A j = some w ∧ w.length < 220 ∧ kW w ∧ I' 117 32 = nI w.length ∧ (∀ x, x < w.length → I' 135 x = nI (w.getD x 0)) ∧ jcall (d + 4) 194 [.ref 117, .int (nI k), .int (nI j)] (jGs L g, I, J) = some (some (.int (nI 1)), (jGs L g, I', J))) ∨ (fT A j = none ∧ jcall (d + 4) 194 [.ref 117, .int (nI k), .int (nI j)] (jGs L g, I, J) = some (some (.int (nI 0)), (jGs L g, I', J)))) := by
  obtain ⟨I1, a1, a2, a3⟩ := r_counts d L g J hA (most := 219) (by omega)
  have h0 := hA.2.2.1.1
  have hw : ∀ n, n < 220 → ∀ q, q < A.1 → I1 134 (10 * n + q) = nI (min (cnt A n q) 1000) := fun n hn q hq => a2 n (by omega) q hq
  have start : jcall (d + 4) 194 [.ref 117, .int (nI k), .int (nI j)] (jGs L g, I, J) = jval (d + 3) 194 13 [.ref 117, .int (nI k), jjunk, .int (nI j), .int (nI 0), jjunk, jjunk, jjunk, jjunk] [] (jGs L g, I1, J) := by
    rw [c_TextValuesModel_spells, e_TextValuesModel_spells_0, show (219 : Int32) = nI 219 from rfl, a3, jcV_some, e_TextValuesModel_spells_8]
    rfl
  rw [start]
  unfold fT
  rcases r_sp_13 (d + 3) L g J (k := k) (A := A) (M := 220) rfl (fun n hn => by have := hw n hn 0 h0; rw [Nat.add_zero] at this; exact this) 220 0 j (by omega) hj with ⟨n, j', h1, h2, h3, h4, h5⟩ | ⟨h1, j', h2⟩
  · have hA1 := mR_cg (I' := ju I1 117 32 (nI n)) hA (fun c _ => by rw [zu_a (by omega), a1 _ (by omega)])
    obtain ⟨I2, q1, q2, q3, q4⟩ := r_sp_66 (d + 2) L g J hk h1 n 0 0 j' (ju I1 117 32 (nI n)) (by omega) h0 h3 (by omega) hA1 (fun n hn q hq => by rw [zu_a (by omega)]; exact hw n hn q hq)
    have hlen := spl_len A n 0 j'
    refine ⟨I2, ⟨fun a b1 b2 b3 => by rw [q1 a b2, ju_n b3, a1 a b1], fun x hx => by rw [q1 _ (by omega), zu_k hx, a1 _ (by omega)]⟩, Or.inl ⟨spl A n 0 j', h4, by rw [hlen]; exact h1, spl_W A n 0 j', by rw [hlen, q1 _ (by omega), zu_at], fun x hx => ?_, ?_⟩⟩
    · rw [hlen] at hx
      have := q3 x hx
      rw [Nat.zero_add] at this
      exact this
    · rw [h5, e_TextValuesModel_spells_54, show (0 : Int32) = nI 0 from rfl, q4, e_TextValuesModel_spells_180, jif_f (show ¬ (220 : Int32) ≤ nI n from nI_ge (a := n) (b := 220) h1 (by omega)), e_TextValuesModel_spells_193, jb01_1]
      rfl
  · refine ⟨ju I1 117 32 (nI 220), ⟨fun a b1 b2 b3 => by rw [ju_n b3, a1 a b1], fun x hx => by rw [zu_k hx, a1 _ (by omega)]⟩, Or.inr ⟨h1, ?_⟩⟩
    rw [h2, e_TextValuesModel_spells_54, e_TextValuesModel_spells_66, jif_f (by decide), jif_t (by decide), e_TextValuesModel_spells_180, jif_t (by decide), e_TextValuesModel_spells_193, jb01_0]
    rfl
end MM

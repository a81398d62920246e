/-! THE CLASS: forget, enlarge, whole -/
set_option maxRecDepth 100000
theorem zb_le {a b : Nat} (h : a ≤ b) : jb (a ≤ b) = true := jb_t.mpr h
section CC
variable (d L : Nat) (g : jG)
theorem c_forget_29 {J : Nat → Nat → Int64} {sr c : Nat} (a3 : g.2.2.1 19 11 = some sr) (k3 : (jGs L g).1 sr = 15) (l3 : (jGs L g).2.1 sr = 2 * 2 ^ c) (hc : c ≤ 14) : ∀ k j (I : Nat → Nat → Int32), j + k = 2 * 2 ^ c → (∀ x, x < j → I sr x = nI 0) → ∃ I', (∀ a, a ≠ sr → I' a = I a) ∧ (∀ x, x < 2 * 2 ^ c → I' sr x = nI 0) ∧ jval d 45 29 [.ref 19, .int (nI j)] [] (jGs L g, I, J) = some (none, (jGs L g, I', J)) := by
  have hp5 : 2 ^ c ≤ 2 ^ 14 := Nat.pow_le_pow_right (by omega) hc
  have h14 : (14 : Nat) ≤ 15 := by omega
  intro k
  induction k with
  | zero =>
    intro j I hj h
    have : j = 2 * 2 ^ c := by omega
    subst this
    refine ⟨I, fun _ _ => rfl, h, ?_⟩
    rw [e_Maker_forget_29]
    simp (disch := omega) only [li_0, li_1, li_2, li_3, li_4, li_5, li_6, li_7, li_8, li_9, li_10, li_11, li_12, li_13, li_14, li_15, li_16, li_17, li_18, li_19, li_20, li_21, li_22, li_23, li_24, li_25, li_26, li_27, li_28, li_29, li_30, li_31, li_32, li_33, li_34, li_35, li_36, li_37, li_38, li_39, li_40, li_41, li_42, li_43, li_44, li_45, li_46, li_47, li_48, li_49, li_50, li_51, li_52, li_53, li_54, li_55, li_56, li_57, li_58, li_59, li_60, li_61, li_62, li_63, li_64, li_65, li_66, li_67, li_68, li_69, li_70, li_71, li_72, li_73, li_74, li_75, li_76, li_77, li_78, li_79, li_80, li_81, li_82, li_83, li_84, li_85, li_86, li_87, li_88, li_89, li_90, li_91, li_92, li_93, li_94, li_95, li_96, li_97, li_98, li_99, li_100, li_101, li_102, li_103, li_104, li_105, li_106, li_107, li_108, li_109, li_110, li_111, li_112, li_113, li_114, li_115, li_116, li_117, li_118, li_119, li_120, li_121, li_122, li_123, li_124, li_125, li_126, li_127, li_128, li_160, li_219, li_220, li_248, li_249, li_250, li_251, li_255, li_999, li_1000, li_1023, li_1024, li_10240, li_999999, li_1048576, li_1048575, nI_add, nI_mul, zi_div, zi_eq, zi_le, zi_lt, zi_in, zi_c, zi_sub, zi_ofN, zi_m1e, zi_m1e', zi_m1lt, zi_m1le, zi_ltm1, zi_lem1, zi_m1m1, jif_T, jif_F, jif_t, jif_f, zb_1, zb_0, zb_01, zb_ft, zn_01a, zn_01b, zi_tst, zi_pow, cond_true, jcI_some, jcV_some, jcJ_some, Nat.reduceAdd, Nat.reduceMul, Nat.reduceSub, reduceCtorEq, Bool.true_eq_false, Bool.false_eq_true, zb_t, zb_f, Nat.add_zero, Nat.zero_add, Nat.mul_zero, Nat.zero_mul, or_true, true_or, or_false, false_or, and_true, true_and, and_false, false_and, not_true_eq_false, not_false_eq_true, jo_some, ↓reduceIte, a3, k3, l3, h14]
    rw [e_Maker_forget_51]
  | succ k ih =>
    intro j I hj h
    obtain ⟨I', q1, q2, q3⟩ := ih (j + 1) (ju I sr j (nI 0)) (by omega) (fun x hx => by
      by_cases hxj : x = j
      · rw [hxj, zu_at]
      · rw [zu_k hxj]; exact h x (by omega))
    refine ⟨I', fun a ha => (q1 a ha).trans (ju_n ha), q2, ?_⟩
    rw [e_Maker_forget_29]
    simp (disch := omega) only [li_0, li_1, li_2, li_3, li_4, li_5, li_6, li_7, li_8, li_9, li_10, li_11, li_12, li_13, li_14, li_15, li_16, li_17, li_18, li_19, li_20, li_21, li_22, li_23, li_24, li_25, li_26, li_27, li_28, li_29, li_30, li_31, li_32, li_33, li_34, li_35, li_36, li_37, li_38, li_39, li_40, li_41, li_42, li_43, li_44, li_45, li_46, li_47, li_48, li_49, li_50, li_51, li_52, li_53, li_54, li_55, li_56, li_57, li_58, li_59, li_60, li_61, li_62, li_63, li_64, li_65, li_66, li_67, li_68, li_69, li_70, li_71, li_72, li_73, li_74, li_75, li_76, li_77, li_78, li_79, li_80, li_81, li_82, li_83, li_84, li_85, li_86, li_87, li_88, li_89, li_90, li_91, li_92, li_93, li_94, li_95, li_96, li_97, li_98, li_99, li_100, li_101, li_102, li_103, li_104, li_105, li_106, li_107, li_108, li_109, li_110, li_111, li_112, li_113, li_114, li_115, li_116, li_117, li_118, li_119, li_120, li_121, li_122, li_123, li_124, li_125, li_126, li_127, li_128, li_160, li_219, li_220, li_248, li_249, li_250, li_251, li_255, li_999, li_1000, li_1023, li_1024, li_10240, li_999999, li_1048576, li_1048575, nI_add, nI_mul, zi_div, zi_eq, zi_le, zi_lt, zi_in, zi_c, zi_sub, zi_ofN, zi_m1e, zi_m1e', zi_m1lt, zi_m1le, zi_ltm1, zi_lem1, zi_m1m1, jif_T, jif_F, jif_t, jif_f, zb_1, zb_0, zb_01, zb_ft, zn_01a, zn_01b, zi_tst, zi_pow, cond_true, jcI_some, jcV_some, jcJ_some, Nat.reduceAdd, Nat.reduceMul, Nat.reduceSub, reduceCtorEq, Bool.true_eq_false, Bool.false_eq_true, zb_t, zb_f, Nat.add_zero, Nat.zero_add, Nat.mul_zero, Nat.zero_mul, or_true, true_or, or_false, false_or, and_true, true_and, and_false, false_and, not_true_eq_false, not_false_eq_true, jo_some, ↓reduceIte, a3, k3, l3, h14]
    exact q3
theorem c_forget {I : Nat → Nat → Int32} {J : Nat → Nat → Int64} {sr c base N : Nat} (a3 : g.2.2.1 19 11 = some sr) (k3 : (jGs L g).1 sr = 15) (l3 : (jGs L g).2.1 sr = 2 * 2 ^ c) (hc : c ≤ 14) (h7 : I 19 7 = nI N) (h12 : I 19 12 = nI base) (hb : base + N ≤ 1073900000) (hS : ∀ x, x < 2 * 2 ^ c → ∃ v, v ≤ base + N ∧ I sr x = nI v) : ∃ I' base', base' ≤ 1073741824 ∧ (∀ a, a ≠ sr → a ≠ 19 → I' a = I a) ∧ (∀ j, j ≠ 12 → I' 19 j = I 19 j) ∧ I' 19 12 = nI base' ∧ (∀ x, x < 2 * 2 ^ c → ∃ v, v ≤ base' ∧ I' sr x = nI v) ∧ jcall (d + 1) 45 [.ref 19] (jGs L g, I, J) = some (none, (jGs L g, I', J)) := by
  have n3 : 19 ≠ sr := ne_K (gK_19 L g) k3 (by omega)
  rw [c_Maker_forget, e_Maker_forget_0]
  by_cases hbig : base + N ≤ 1073741824
  · refine ⟨ju I 19 12 (nI (base + N)), base + N, hbig, fun a _ ha => ju_n ha, fun j hj => zu_k hj, zu_at _ _ _ _, fun x hx => by rw [zu_a (by omega)]; exact hS x hx, ?_⟩
    simp (disch := omega) only [li_0, li_1, li_2, li_3, li_4, li_5, li_6, li_7, li_8, li_9, li_10, li_11, li_12, li_13, li_14, li_15, li_16, li_17, li_18, li_19, li_20, li_21, li_22, li_23, li_24, li_25, li_26, li_27, li_28, li_29, li_30, li_31, li_32, li_33, li_34, li_35, li_36, li_37, li_38, li_39, li_40, li_41, li_42, li_43, li_44, li_45, li_46, li_47, li_48, li_49, li_50, li_51, li_52, li_53, li_54, li_55, li_56, li_57, li_58, li_59, li_60, li_61, li_62, li_63, li_64, li_65, li_66, li_67, li_68, li_69, li_70, li_71, li_72, li_73, li_74, li_75, li_76, li_77, li_78, li_79, li_80, li_81, li_82, li_83, li_84, li_85, li_86, li_87, li_88, li_89, li_90, li_91, li_92, li_93, li_94, li_95, li_96, li_97, li_98, li_99, li_100, li_101, li_102, li_103, li_104, li_105, li_106, li_107, li_108, li_109, li_110, li_111, li_112, li_113, li_114, li_115, li_116, li_117, li_118, li_119, li_120, li_121, li_122, li_123, li_124, li_125, li_126, li_127, li_128, li_160, li_219, li_220, li_248, li_249, li_250, li_251, li_255, li_999, li_1000, li_1023, li_1024, li_10240, li_999999, li_1048576, li_1048575, nI_add, nI_mul, zi_div, zi_eq, zi_le, zi_lt, zi_in, zi_c, zi_sub, zi_ofN, zi_m1e, zi_m1e', zi_m1lt, zi_m1le, zi_ltm1, zi_lem1, zi_m1m1, jif_T, jif_F, jif_t, jif_f, zb_1, zb_0, zb_01, zb_ft, zn_01a, zn_01b, zi_tst, zi_pow, cond_true, jcI_some, jcV_some, jcJ_some, Nat.reduceAdd, Nat.reduceMul, Nat.reduceSub, reduceCtorEq, Bool.true_eq_false, Bool.false_eq_true, zb_t, zb_f, Nat.add_zero, Nat.zero_add, Nat.mul_zero, Nat.zero_mul, or_true, true_or, or_false, false_or, and_true, true_and, and_false, false_and, not_true_eq_false, not_false_eq_true, li_1073741824, h7, h12]
    rw [e_Maker_forget_51]
  · obtain ⟨I', q1, q2, q3⟩ := c_forget_29 d L g (J := J) a3 k3 l3 hc (2 * 2 ^ c) 0 (ju (ju I 19 12 (nI (base + N))) 19 12 (nI 0)) (by omega) (fun x hx => absurd hx (by omega))
    refine ⟨I', 0, by omega, fun a h1 h2 => by rw [q1 a h1, ju_n h2, ju_n h2], fun j hj => by rw [q1 19 n3, zu_k hj, zu_k hj], by rw [q1 19 n3, zu_at], fun x hx => ⟨0, by omega, q2 x hx⟩, ?_⟩
    simp (disch := omega) only [li_0, li_1, li_2, li_3, li_4, li_5, li_6, li_7, li_8, li_9, li_10, li_11, li_12, li_13, li_14, li_15, li_16, li_17, li_18, li_19, li_20, li_21, li_22, li_23, li_24, li_25, li_26, li_27, li_28, li_29, li_30, li_31, li_32, li_33, li_34, li_35, li_36, li_37, li_38, li_39, li_40, li_41, li_42, li_43, li_44, li_45, li_46, li_47, li_48, li_49, li_50, li_51, li_52, li_53, li_54, li_55, li_56, li_57, li_58, li_59, li_60, li_61, li_62, li_63, li_64, li_65, li_66, li_67, li_68, li_69, li_70, li_71, li_72, li_73, li_74, li_75, li_76, li_77, li_78, li_79, li_80, li_81, li_82, li_83, li_84, li_85, li_86, li_87, li_88, li_89, li_90, li_91, li_92, li_93, li_94, li_95, li_96, li_97, li_98, li_99, li_100, li_101, li_102, li_103, li_104, li_105, li_106, li_107, li_108, li_109, li_110, li_111, li_112, li_113, li_114, li_115, li_116, li_117, li_118, li_119, li_120, li_121, li_122, li_123, li_124, li_125, li_126, li_127, li_128, li_160, li_219, li_220, li_248, li_249, li_250, li_251, li_255, li_999, li_1000, li_1023, li_1024, li_10240, li_999999, li_1048576, li_1048575, nI_add, nI_mul, zi_div, zi_eq, zi_le, zi_lt, zi_in, zi_c, zi_sub, zi_ofN, zi_m1e, zi_m1e', zi_m1lt, zi_m1le, zi_ltm1, zi_lem1, zi_m1m1, jif_T, jif_F, jif_t, jif_f, zb_1, zb_0, zb_01, zb_ft, zn_01a, zn_01b, zi_tst, zi_pow, cond_true, jcI_some, jcV_some, jcJ_some, Nat.reduceAdd, Nat.reduceMul, Nat.reduceSub, reduceCtorEq, Bool.true_eq_false, Bool.false_eq_true, zb_t, zb_f, Nat.add_zero, Nat.zero_add, Nat.mul_zero, Nat.zero_mul, or_true, true_or, or_false, false_or, and_true, true_and, and_false, false_and, not_true_eq_false, not_false_eq_true, li_1073741824, h7, h12]
    exact q3
theorem c_enl_61 {J : Nat → Nat → Int64} {kr gr a1 a2 a3 c c2 N : Nat} {K ν : Nat → Nat} (r1 : g.2.2.1 19 9 = some kr) (r2 : g.2.2.1 19 13 = some gr) (k1 : (jGs L g).1 kr = 15) (k2 : (jGs L g).1 gr = 14) (k3 : (jGs L g).1 a1 = 15) (k4 : (jGs L g).1 a3 = 14) (l1 : (jGs L g).2.1 kr = 2 ^ c) (l2 : (jGs L g).2.1 gr = 2 ^ c) (l3 : (jGs L g).2.1 a1 = 2 ^ c2) (l4 : (jGs L g).2.1 a3 = 2 ^ c2) (hc : c2 ≤ 14) (hcc : c ≤ c2) (hN : N ≤ 2 ^ c) (d1 : kr ≠ a1) (d2 : gr ≠ a3) (hν : ∀ i, i < N → ν i < 10) : ∀ k j (I : Nat → Nat → Int32), j + k = N → I 19 7 = nI N → (∀ i, i < N → I kr i = nI (K i)) → (∀ i, i < N → I gr i = nI (ν i)) → (∀ i, i < j → I a1 i = nI (K i) ∧ I a3 i = nI (ν i)) → ∃ I', (∀ a, a ≠ a1 → a ≠ a3 → I' a = I a) ∧ (∀ i, i < N → I' a1 i = nI (K i) ∧ I' a3 i = nI (ν i)) ∧ jval d 44 61 [.ref 19, .ref a1, .ref a2, .ref a3, .int (nI j)] [] (jGs L g, I, J) = jval d 44 101 [.ref 19, .ref a1, .ref a2, .ref a3, .int (nI 0)] [] (jGs L g, I', J) := by
  have hp3 : 2 ^ c ≤ 2 ^ c2 := Nat.pow_le_pow_right (by omega) hcc
  have hp5 : 2 ^ c2 ≤ 2 ^ 14 := Nat.pow_le_pow_right (by omega) hc
  have n1 : 19 ≠ a1 := ne_K (gK_19 L g) k3 (by omega)
  have n3 : 19 ≠ a3 := ne_K (gK_19 L g) k4 (by omega)
  have n4 : kr ≠ a3 := ne_K k1 k4 (by omega)
  have n5 : gr ≠ a1 := ne_K k2 k3 (by omega)
  have n6 : a1 ≠ a3 := ne_K k3 k4 (by omega)
  intro k
  induction k with
  | zero =>
    intro j I hj h7 hk hg h
    have : j = N := by omega
    subst this
    refine ⟨I, fun _ _ _ => rfl, h, ?_⟩
    rw [e_Maker_enlarge_61]
    simp (disch := omega) only [li_0, li_1, li_2, li_3, li_4, li_5, li_6, li_7, li_8, li_9, li_10, li_11, li_12, li_13, li_14, li_15, li_16, li_17, li_18, li_19, li_20, li_21, li_22, li_23, li_24, li_25, li_26, li_27, li_28, li_29, li_30, li_31, li_32, li_33, li_34, li_35, li_36, li_37, li_38, li_39, li_40, li_41, li_42, li_43, li_44, li_45, li_46, li_47, li_48, li_49, li_50, li_51, li_52, li_53, li_54, li_55, li_56, li_57, li_58, li_59, li_60, li_61, li_62, li_63, li_64, li_65, li_66, li_67, li_68, li_69, li_70, li_71, li_72, li_73, li_74, li_75, li_76, li_77, li_78, li_79, li_80, li_81, li_82, li_83, li_84, li_85, li_86, li_87, li_88, li_89, li_90, li_91, li_92, li_93, li_94, li_95, li_96, li_97, li_98, li_99, li_100, li_101, li_102, li_103, li_104, li_105, li_106, li_107, li_108, li_109, li_110, li_111, li_112, li_113, li_114, li_115, li_116, li_117, li_118, li_119, li_120, li_121, li_122, li_123, li_124, li_125, li_126, li_127, li_128, li_160, li_219, li_220, li_248, li_249, li_250, li_251, li_255, li_999, li_1000, li_1023, li_1024, li_10240, li_999999, li_1048576, li_1048575, nI_add, nI_mul, zi_div, zi_eq, zi_le, zi_lt, zi_in, zi_c, zi_sub, zi_ofN, zi_m1e, zi_m1e', zi_m1lt, zi_m1le, zi_ltm1, zi_lem1, zi_m1m1, jif_T, jif_F, jif_t, jif_f, zb_1, zb_0, zb_01, zb_ft, zn_01a, zn_01b, zi_tst, zi_pow, cond_true, jcI_some, jcV_some, jcJ_some, Nat.reduceAdd, Nat.reduceMul, Nat.reduceSub, reduceCtorEq, Bool.true_eq_false, Bool.false_eq_true, zb_t, zb_f, Nat.add_zero, Nat.zero_add, Nat.mul_zero, Nat.zero_mul, or_true, true_or, or_false, false_or, and_true, true_and, and_false, false_and, not_true_eq_false, not_false_eq_true, h7]
  | succ k ih =>
    intro j I hj h7 hk hg h
    obtain ⟨I', q1, q2, q3⟩ := ih (j + 1) (ju (ju I a1 j (nI (K j))) a3 j (nI (ν j))) (by omega) (by rw [zu_a n3, zu_a n1]; exact h7) (fun i hi => by rw [zu_a n4, zu_a d1]; exact hk i hi) (fun i hi => by rw [zu_a d2, zu_a n5]; exact hg i hi) (fun i hi => by
      by_cases hij : i = j
      · rw [hij, zu_a n6, zu_at, zu_at]; exact ⟨rfl, rfl⟩
      · rw [zu_a n6, zu_k hij, zu_k hij, zu_a (by omega)]; exact h i (by omega))
    refine ⟨I', fun a h1 h2 => by rw [q1 a h1 h2, ju_n h2, ju_n h1], q2, ?_⟩
    have hkj := hk j (by omega)
    have hgj := hg j (by omega)
    have hνj := hν j (by omega)
    rw [e_Maker_enlarge_61]
    simp (disch := omega) only [li_0, li_1, li_2, li_3, li_4, li_5, li_6, li_7, li_8, li_9, li_10, li_11, li_12, li_13, li_14, li_15, li_16, li_17, li_18, li_19, li_20, li_21, li_22, li_23, li_24, li_25, li_26, li_27, li_28, li_29, li_30, li_31, li_32, li_33, li_34, li_35, li_36, li_37, li_38, li_39, li_40, li_41, li_42, li_43, li_44, li_45, li_46, li_47, li_48, li_49, li_50, li_51, li_52, li_53, li_54, li_55, li_56, li_57, li_58, li_59, li_60, li_61, li_62, li_63, li_64, li_65, li_66, li_67, li_68, li_69, li_70, li_71, li_72, li_73, li_74, li_75, li_76, li_77, li_78, li_79, li_80, li_81, li_82, li_83, li_84, li_85, li_86, li_87, li_88, li_89, li_90, li_91, li_92, li_93, li_94, li_95, li_96, li_97, li_98, li_99, li_100, li_101, li_102, li_103, li_104, li_105, li_106, li_107, li_108, li_109, li_110, li_111, li_112, li_113, li_114, li_115, li_116, li_117, li_118, li_119, li_120, li_121, li_122, li_123, li_124, li_125, li_126, li_127, li_128, li_160, li_219, li_220, li_248, li_249, li_250, li_251, li_255, li_999, li_1000, li_1023, li_1024, li_10240, li_999999, li_1048576, li_1048575, nI_add, nI_mul, zi_div, zi_eq, zi_le, zi_lt, zi_in, zi_c, zi_sub, zi_ofN, zi_m1e, zi_m1e', zi_m1lt, zi_m1le, zi_ltm1, zi_lem1, zi_m1m1, jif_T, jif_F, jif_t, jif_f, zb_1, zb_0, zb_01, zb_ft, zn_01a, zn_01b, zi_tst, zi_pow, cond_true, jcI_some, jcV_some, jcJ_some, Nat.reduceAdd, Nat.reduceMul, Nat.reduceSub, reduceCtorEq, Bool.true_eq_false, Bool.false_eq_true, zb_t, zb_f, Nat.add_zero, Nat.zero_add, Nat.mul_zero, Nat.zero_mul, or_true, true_or, or_false, false_or, and_true, true_and, and_false, false_and, not_true_eq_false, not_false_eq_true, jo_some, ↓reduceIte, zi_b, zu_a, r1, r2, k1, k2, k3, k4, l1, l2, l3, l4, h7, hkj, hgj]
    exact q3
theorem c_enl_101 {J : Nat → Nat → Int64} {rr a1 a2 a3 c c2 N : Nat} (r1 : g.2.2.1 19 10 = some rr) (k1 : (jGs L g).1 rr = 15) (k3 : (jGs L g).1 a2 = 15) (l1 : (jGs L g).2.1 rr = 4 * 2 ^ c) (l3 : (jGs L g).2.1 a2 = 4 * 2 ^ c2) (hc : c2 ≤ 14) (hcc : c ≤ c2) (hN : N ≤ 2 ^ c) (d1 : rr ≠ a2) : ∀ k j (I : Nat → Nat → Int32), j + k = 4 * N → I 19 7 = nI N → (∀ i, i < j → I a2 i = I rr i) → ∃ I', (∀ a, a ≠ a2 → I' a = I a) ∧ (∀ i, i < 4 * N → I' a2 i = I rr i) ∧ jval d 44 101 [.ref 19, .ref a1, .ref a2, .ref a3, .int (nI j)] [] (jGs L g, I, J) = jval d 44 134 [.ref 19, jjunk, .ref a2, .ref a3, jjunk] [] (jgsR (jGs L g) 19 9 (some a1), I', J) := by
  have hp3 : 2 ^ c ≤ 2 ^ c2 := Nat.pow_le_pow_right (by omega) hcc
  have hp5 : 2 ^ c2 ≤ 2 ^ 14 := Nat.pow_le_pow_right (by omega) hc
  have n1 : 19 ≠ a2 := ne_K (gK_19 L g) k3 (by omega)
  intro k
  induction k with
  | zero =>
    intro j I hj h7 h
    have : j = 4 * N := by omega
    subst this
    refine ⟨I, fun _ _ => rfl, h, ?_⟩
    rw [e_Maker_enlarge_101]
    simp (disch := omega) only [li_0, li_1, li_2, li_3, li_4, li_5, li_6, li_7, li_8, li_9, li_10, li_11, li_12, li_13, li_14, li_15, li_16, li_17, li_18, li_19, li_20, li_21, li_22, li_23, li_24, li_25, li_26, li_27, li_28, li_29, li_30, li_31, li_32, li_33, li_34, li_35, li_36, li_37, li_38, li_39, li_40, li_41, li_42, li_43, li_44, li_45, li_46, li_47, li_48, li_49, li_50, li_51, li_52, li_53, li_54, li_55, li_56, li_57, li_58, li_59, li_60, li_61, li_62, li_63, li_64, li_65, li_66, li_67, li_68, li_69, li_70, li_71, li_72, li_73, li_74, li_75, li_76, li_77, li_78, li_79, li_80, li_81, li_82, li_83, li_84, li_85, li_86, li_87, li_88, li_89, li_90, li_91, li_92, li_93, li_94, li_95, li_96, li_97, li_98, li_99, li_100, li_101, li_102, li_103, li_104, li_105, li_106, li_107, li_108, li_109, li_110, li_111, li_112, li_113, li_114, li_115, li_116, li_117, li_118, li_119, li_120, li_121, li_122, li_123, li_124, li_125, li_126, li_127, li_128, li_160, li_219, li_220, li_248, li_249, li_250, li_251, li_255, li_999, li_1000, li_1023, li_1024, li_10240, li_999999, li_1048576, li_1048575, nI_add, nI_mul, zi_div, zi_eq, zi_le, zi_lt, zi_in, zi_c, zi_sub, zi_ofN, zi_m1e, zi_m1e', zi_m1lt, zi_m1le, zi_ltm1, zi_lem1, zi_m1m1, jif_T, jif_F, jif_t, jif_f, zb_1, zb_0, zb_01, zb_ft, zn_01a, zn_01b, zi_tst, zi_pow, cond_true, jcI_some, jcV_some, jcJ_some, Nat.reduceAdd, Nat.reduceMul, Nat.reduceSub, reduceCtorEq, Bool.true_eq_false, Bool.false_eq_true, zb_t, zb_f, Nat.add_zero, Nat.zero_add, Nat.mul_zero, Nat.zero_mul, or_true, true_or, or_false, false_or, and_true, true_and, and_false, false_and, not_true_eq_false, not_false_eq_true, h7]
  | succ k ih =>
    intro j I hj h7 h
    obtain ⟨I', q1, q2, q3⟩ := ih (j + 1) (ju I a2 j (I rr j)) (by omega) (by rw [zu_a n1]; exact h7) (fun i hi => by
      by_cases hij : i = j
      · rw [hij, zu_at, zu_a d1]
      · rw [zu_k hij, zu_a d1]; exact h i (by omega))
    refine ⟨I', fun a h1 => by rw [q1 a h1, ju_n h1], fun i hi => by rw [q2 i hi, zu_a d1], ?_⟩
    rw [e_Maker_enlarge_101]
    simp (disch := omega) only [li_0, li_1, li_2, li_3, li_4, li_5, li_6, li_7, li_8, li_9, li_10, li_11, li_12, li_13, li_14, li_15, li_16, li_17, li_18, li_19, li_20, li_21, li_22, li_23, li_24, li_25, li_26, li_27, li_28, li_29, li_30, li_31, li_32, li_33, li_34, li_35, li_36, li_37, li_38, li_39, li_40, li_41, li_42, li_43, li_44, li_45, li_46, li_47, li_48, li_49, li_50, li_51, li_52, li_53, li_54, li_55, li_56, li_57, li_58, li_59, li_60, li_61, li_62, li_63, li_64, li_65, li_66, li_67, li_68, li_69, li_70, li_71, li_72, li_73, li_74, li_75, li_76, li_77, li_78, li_79, li_80, li_81, li_82, li_83, li_84, li_85, li_86, li_87, li_88, li_89, li_90, li_91, li_92, li_93, li_94, li_95, li_96, li_97, li_98, li_99, li_100, li_101, li_102, li_103, li_104, li_105, li_106, li_107, li_108, li_109, li_110, li_111, li_112, li_113, li_114, li_115, li_116, li_117, li_118, li_119, li_120, li_121, li_122, li_123, li_124, li_125, li_126, li_127, li_128, li_160, li_219, li_220, li_248, li_249, li_250, li_251, li_255, li_999, li_1000, li_1023, li_1024, li_10240, li_999999, li_1048576, li_1048575, nI_add, nI_mul, zi_div, zi_eq, zi_le, zi_lt, zi_in, zi_c, zi_sub, zi_ofN, zi_m1e, zi_m1e', zi_m1lt, zi_m1le, zi_ltm1, zi_lem1, zi_m1m1, jif_T, jif_F, jif_t, jif_f, zb_1, zb_0, zb_01, zb_ft, zn_01a, zn_01b, zi_tst, zi_pow, cond_true, jcI_some, jcV_some, jcJ_some, Nat.reduceAdd, Nat.reduceMul, Nat.reduceSub, reduceCtorEq, Bool.true_eq_false, Bool.false_eq_true, zb_t, zb_f, Nat.add_zero, Nat.zero_add, Nat.mul_zero, Nat.zero_mul, or_true, true_or, or_false, false_or, and_true, true_and, and_false, false_and, not_true_eq_false, not_false_eq_true, jo_some, ↓reduceIte, r1, k1, k3, l1, l3, h7]
    exact q3
end CC
/-- the maker's cells -/
def mkO (g : jG) (a : Nat) : Prop := a = 19 ∨ a = 20 ∨ a = 21 ∨ a = 22 ∨ a = 23 ∨ a = 29 ∨ g.2.2.1 19 9 = some a ∨ g.2.2.1 19 10 = some a ∨ g.2.2.1 19 11 = some a ∨ g.2.2.1 19 13 = some a ∨ g.2.2.1 19 14 = some a
/-- all else stays -/
def fG (L : Nat) (g g' : jG) (I I' : Nat → Nat → Int32) (J J' : Nat → Nat → Int64) : Prop := (∀ a, a ≤ g.2.2.2.1 → ¬ mkO g a → I' a = I a ∧ J' a = J a ∧ ¬ mkO g' a) ∧ (∀ a, a ≤ g.2.2.2.1 → gK L g' a = gK L g a ∧ gN L g' a = gN L g a) ∧ (∀ a k, a ≤ g.2.2.2.1 → a ≠ 19 → g'.2.2.1 a k = g.2.2.1 a k) ∧ g.2.2.2.1 ≤ g'.2.2.2.1
theorem fG_rfl (L : Nat) (g : jG) (I : Nat → Nat → Int32) (J : Nat → Nat → Int64) : fG L g g I I J J := ⟨fun _ _ h => ⟨rfl, rfl, h⟩, fun _ _ => ⟨rfl, rfl⟩, fun _ _ _ _ => rfl, Nat.le_refl _⟩
theorem fG_trans {L : Nat} {g g' g'' : jG} {I I' I'' : Nat → Nat → Int32} {J J' J'' : Nat → Nat → Int64} (h : fG L g g' I I' J J') (h' : fG L g' g'' I' I'' J' J'') : fG L g g'' I I'' J J'' := by
  obtain ⟨a1, a2, a3, a4⟩ := h
  obtain ⟨b1, b2, b3, b4⟩ := h'
  refine ⟨fun a ha hn => ?_, fun a ha => ?_, fun a k ha hn => ?_, Nat.le_trans a4 b4⟩
  · obtain ⟨c1, c2, c3⟩ := a1 a ha hn
    obtain ⟨e1, e2, e3⟩ := b1 a (Nat.le_trans ha a4) c3
    exact ⟨e1.trans c1, e2.trans c2, e3⟩
  · have c := a2 a ha
    have e := b2 a (Nat.le_trans ha a4)
    exact ⟨e.1.trans c.1, e.2.trans c.2⟩
  · exact (b3 a k (Nat.le_trans ha a4) hn).trans (a3 a k ha hn)
theorem fG_same {L : Nat} {g : jG} {I I' : Nat → Nat → Int32} {J J' : Nat → Nat → Int64} (h : ∀ a, ¬ mkO g a → I' a = I a ∧ J' a = J a) : fG L g g I I' J J' := ⟨fun a _ hn => ⟨(h a hn).1, (h a hn).2, hn⟩, fun _ _ => ⟨rfl, rfl⟩, fun _ _ _ _ => rfl, Nat.le_refl _⟩

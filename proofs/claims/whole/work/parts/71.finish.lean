/-! THE CLASS: finish: the search -/
set_option maxRecDepth 100000
theorem kNr_sT {stp : Nat → Nat} {key n l : Nat} : kNr stp key n / 2 ^ (20 * l) % 1048576 = nxM n (fun q l => sT (stp q) l) key l := by
  apply Nat.eq_of_testBit_eq
  intro b
  have hb : ∀ x, (x / 2 ^ (20 * l) % 1048576).testBit b = (decide (b < 20) && x.testBit (b + 20 * l)) := fun x => by
    rw [show (1048576 : Nat) = 2 ^ 20 from rfl, Nat.testBit_mod_two_pow, Nat.testBit_div_two_pow]
  rw [hb, Bool.eq_iff_iff, Bool.and_eq_true, decide_eq_true_iff, kNr_bit]
  unfold nxM
  rw [kNr_bit]
  constructor
  · rintro ⟨h1, r, h2, h3, h4⟩
    exact ⟨r, h2, h3, by show (stp r / 2 ^ (20 * l) % 1048576).testBit b = true; rw [hb, h4, decide_eq_true h1]; rfl⟩
  · rintro ⟨r, h2, h3, h4⟩
    have h5 : (stp r / 2 ^ (20 * l) % 1048576).testBit b = true := h4
    rw [hb, Bool.and_eq_true, decide_eq_true_iff] at h5
    exact ⟨h5.1, r, h2, h3, h5.2⟩
theorem nxM_lt {stp : Nat → Nat} {key n l : Nat} : nxM n (fun q l => sT (stp q) l) key l < 1048576 := by
  rw [← kNr_sT]; exact Nat.mod_lt _ (by omega)
section CC
variable (d L : Nat) (g : jG) (I : Nat → Nat → Int32) (J : Nat → Nat → Int64)
theorem c_fin_112 {n key a2 : Nat} {stp : Nat → Nat} {x3 x4 : Int32} (hn : I 19 4 = nI n) (hn20 : n ≤ 20) (hk : key < 1048576) (hw : ∀ q, q < n → J 20 q = lN (stp q)) : ∀ k j, j + k = n → jval d 42 112 [.ref 19, jjunk, .ref a2, .int x3, .int x4, .long (lN (kNr stp key j)), jjunk, .int (nI (key / 2 ^ j)), .int (nI j), jjunk] [] (jGs L g, I, J) = jval d 42 157 [.ref 19, jjunk, .ref a2, .int x3, .int x4, .long (lN (kNr stp key n)), jjunk, jjunk, jjunk, jjunk] [] (jGs L g, I, J) := by
  intro k
  induction k with
  | zero =>
    intro j hj
    have : j = n := by omega
    subst this
    rw [e_Maker_finish_112]
    simp (disch := omega) only [li_0, li_1, li_2, li_3, li_4, li_5, li_6, li_7, li_8, li_9, li_10, li_11, li_12, li_13, li_14, li_15, li_16, li_17, li_18, li_19, li_20, li_21, li_22, li_23, li_24, li_25, li_26, li_27, li_28, li_29, li_30, li_31, li_32, li_33, li_34, li_35, li_36, li_37, li_38, li_39, li_40, li_41, li_42, li_43, li_44, li_45, li_46, li_47, li_48, li_49, li_50, li_51, li_52, li_53, li_54, li_55, li_56, li_57, li_58, li_59, li_60, li_61, li_62, li_63, li_64, li_65, li_66, li_67, li_68, li_69, li_70, li_71, li_72, li_73, li_74, li_75, li_76, li_77, li_78, li_79, li_80, li_81, li_82, li_83, li_84, li_85, li_86, li_87, li_88, li_89, li_90, li_91, li_92, li_93, li_94, li_95, li_96, li_97, li_98, li_99, li_100, li_101, li_102, li_103, li_104, li_105, li_106, li_107, li_108, li_109, li_110, li_111, li_112, li_113, li_114, li_115, li_116, li_117, li_118, li_119, li_120, li_121, li_122, li_123, li_124, li_125, li_126, li_127, li_128, li_160, li_219, li_220, li_248, li_249, li_250, li_251, li_255, li_999, li_1000, li_1023, li_1024, li_10240, li_999999, li_1048576, li_1048575, nI_add, nI_mul, zi_div, zi_eq, zi_le, zi_lt, zi_in, zi_c, zi_sub, zi_ofN, zi_m1e, zi_m1e', zi_m1lt, zi_m1le, zi_ltm1, zi_lem1, zi_m1m1, jif_T, jif_F, jif_t, jif_f, zb_1, zb_0, zb_01, zb_ft, zn_01a, zn_01b, zi_tst, zi_pow, cond_true, jcI_some, jcV_some, jcJ_some, Nat.reduceAdd, Nat.reduceMul, Nat.reduceSub, reduceCtorEq, Bool.true_eq_false, Bool.false_eq_true, zb_t, zb_f, Nat.add_zero, Nat.zero_add, Nat.mul_zero, Nat.zero_mul, or_true, true_or, or_false, false_or, and_true, true_and, and_false, false_and, not_true_eq_false, not_false_eq_true, hn]
  | succ k ih =>
    intro j hj
    have hdm : key / 2 ^ j < 1048576 := Nat.lt_of_le_of_lt (Nat.div_le_self _ _) hk
    rw [e_Maker_finish_112]
    by_cases hz : key / 2 ^ j = 0
    · have hs := kNr_stop (f := stp) hz (k + 1)
      rw [hj] at hs
      simp (disch := omega) only [li_0, li_1, li_2, li_3, li_4, li_5, li_6, li_7, li_8, li_9, li_10, li_11, li_12, li_13, li_14, li_15, li_16, li_17, li_18, li_19, li_20, li_21, li_22, li_23, li_24, li_25, li_26, li_27, li_28, li_29, li_30, li_31, li_32, li_33, li_34, li_35, li_36, li_37, li_38, li_39, li_40, li_41, li_42, li_43, li_44, li_45, li_46, li_47, li_48, li_49, li_50, li_51, li_52, li_53, li_54, li_55, li_56, li_57, li_58, li_59, li_60, li_61, li_62, li_63, li_64, li_65, li_66, li_67, li_68, li_69, li_70, li_71, li_72, li_73, li_74, li_75, li_76, li_77, li_78, li_79, li_80, li_81, li_82, li_83, li_84, li_85, li_86, li_87, li_88, li_89, li_90, li_91, li_92, li_93, li_94, li_95, li_96, li_97, li_98, li_99, li_100, li_101, li_102, li_103, li_104, li_105, li_106, li_107, li_108, li_109, li_110, li_111, li_112, li_113, li_114, li_115, li_116, li_117, li_118, li_119, li_120, li_121, li_122, li_123, li_124, li_125, li_126, li_127, li_128, li_160, li_219, li_220, li_248, li_249, li_250, li_251, li_255, li_999, li_1000, li_1023, li_1024, li_10240, li_999999, li_1048576, li_1048575, nI_add, nI_mul, zi_div, zi_eq, zi_le, zi_lt, zi_in, zi_c, zi_sub, zi_ofN, zi_m1e, zi_m1e', zi_m1lt, zi_m1le, zi_ltm1, zi_lem1, zi_m1m1, jif_T, jif_F, jif_t, jif_f, zb_1, zb_0, zb_01, zb_ft, zn_01a, zn_01b, zi_tst, zi_pow, cond_true, jcI_some, jcV_some, jcJ_some, Nat.reduceAdd, Nat.reduceMul, Nat.reduceSub, reduceCtorEq, Bool.true_eq_false, Bool.false_eq_true, zb_t, zb_f, Nat.add_zero, Nat.zero_add, Nat.mul_zero, Nat.zero_mul, or_true, true_or, or_false, false_or, and_true, true_and, and_false, false_and, not_true_eq_false, not_false_eq_true, hn, hz, hs]
    · have he : key / 2 ^ j / 2 ^ 1 = key / 2 ^ (j + 1) := by rw [Nat.div_div_eq_div_mul, ← Nat.pow_add]
      have hi := ih (j + 1) (by omega)
      have hq := hw j (by omega)
      rw [show kNr stp key (j + 1) = kNr stp key j ||| (if key.testBit j = true then stp j else 0) from rfl] at hi
      cases hb : key.testBit j
      · rw [hb, if_neg (by decide), Nat.or_zero] at hi
        simp (disch := omega) only [li_0, li_1, li_2, li_3, li_4, li_5, li_6, li_7, li_8, li_9, li_10, li_11, li_12, li_13, li_14, li_15, li_16, li_17, li_18, li_19, li_20, li_21, li_22, li_23, li_24, li_25, li_26, li_27, li_28, li_29, li_30, li_31, li_32, li_33, li_34, li_35, li_36, li_37, li_38, li_39, li_40, li_41, li_42, li_43, li_44, li_45, li_46, li_47, li_48, li_49, li_50, li_51, li_52, li_53, li_54, li_55, li_56, li_57, li_58, li_59, li_60, li_61, li_62, li_63, li_64, li_65, li_66, li_67, li_68, li_69, li_70, li_71, li_72, li_73, li_74, li_75, li_76, li_77, li_78, li_79, li_80, li_81, li_82, li_83, li_84, li_85, li_86, li_87, li_88, li_89, li_90, li_91, li_92, li_93, li_94, li_95, li_96, li_97, li_98, li_99, li_100, li_101, li_102, li_103, li_104, li_105, li_106, li_107, li_108, li_109, li_110, li_111, li_112, li_113, li_114, li_115, li_116, li_117, li_118, li_119, li_120, li_121, li_122, li_123, li_124, li_125, li_126, li_127, li_128, li_160, li_219, li_220, li_248, li_249, li_250, li_251, li_255, li_999, li_1000, li_1023, li_1024, li_10240, li_999999, li_1048576, li_1048575, nI_add, nI_mul, zi_div, zi_eq, zi_le, zi_lt, zi_in, zi_c, zi_sub, zi_ofN, zi_m1e, zi_m1e', zi_m1lt, zi_m1le, zi_ltm1, zi_lem1, zi_m1m1, jif_T, jif_F, jif_t, jif_f, zb_1, zb_0, zb_01, zb_ft, zn_01a, zn_01b, zi_tst, zi_pow, cond_true, jcI_some, jcV_some, jcJ_some, Nat.reduceAdd, Nat.reduceMul, Nat.reduceSub, reduceCtorEq, Bool.true_eq_false, Bool.false_eq_true, zb_t, zb_f, Nat.add_zero, Nat.zero_add, Nat.mul_zero, Nat.zero_mul, or_true, true_or, or_false, false_or, and_true, true_and, and_false, false_and, not_true_eq_false, not_false_eq_true, zl_and, zl_or, zl_dif, zl_shl, zl_srl, zl_i, zl_w, zl_cmp, zi_b, zi_and, zi_or, zi_sru, jo_some, jo_none, ll_0, ll_1, ll_1048575, ll_1118481, li_16384, li_1073741824, ↓reduceIte, hn, hz, zn_b1, hb]
        rw [e_Maker_finish_145]
        simp (disch := omega) only [li_0, li_1, li_2, li_3, li_4, li_5, li_6, li_7, li_8, li_9, li_10, li_11, li_12, li_13, li_14, li_15, li_16, li_17, li_18, li_19, li_20, li_21, li_22, li_23, li_24, li_25, li_26, li_27, li_28, li_29, li_30, li_31, li_32, li_33, li_34, li_35, li_36, li_37, li_38, li_39, li_40, li_41, li_42, li_43, li_44, li_45, li_46, li_47, li_48, li_49, li_50, li_51, li_52, li_53, li_54, li_55, li_56, li_57, li_58, li_59, li_60, li_61, li_62, li_63, li_64, li_65, li_66, li_67, li_68, li_69, li_70, li_71, li_72, li_73, li_74, li_75, li_76, li_77, li_78, li_79, li_80, li_81, li_82, li_83, li_84, li_85, li_86, li_87, li_88, li_89, li_90, li_91, li_92, li_93, li_94, li_95, li_96, li_97, li_98, li_99, li_100, li_101, li_102, li_103, li_104, li_105, li_106, li_107, li_108, li_109, li_110, li_111, li_112, li_113, li_114, li_115, li_116, li_117, li_118, li_119, li_120, li_121, li_122, li_123, li_124, li_125, li_126, li_127, li_128, li_160, li_219, li_220, li_248, li_249, li_250, li_251, li_255, li_999, li_1000, li_1023, li_1024, li_10240, li_999999, li_1048576, li_1048575, nI_add, nI_mul, zi_div, zi_eq, zi_le, zi_lt, zi_in, zi_c, zi_sub, zi_ofN, zi_m1e, zi_m1e', zi_m1lt, zi_m1le, zi_ltm1, zi_lem1, zi_m1m1, jif_T, jif_F, jif_t, jif_f, zb_1, zb_0, zb_01, zb_ft, zn_01a, zn_01b, zi_tst, zi_pow, cond_true, jcI_some, jcV_some, jcJ_some, Nat.reduceAdd, Nat.reduceMul, Nat.reduceSub, reduceCtorEq, Bool.true_eq_false, Bool.false_eq_true, zb_t, zb_f, Nat.add_zero, Nat.zero_add, Nat.mul_zero, Nat.zero_mul, or_true, true_or, or_false, false_or, and_true, true_and, and_false, false_and, not_true_eq_false, not_false_eq_true, zl_and, zl_or, zl_dif, zl_shl, zl_srl, zl_i, zl_w, zl_cmp, zi_b, zi_and, zi_or, zi_sru, jo_some, jo_none, ll_0, ll_1, ll_1048575, ll_1118481, li_16384, li_1073741824, ↓reduceIte, he]
        exact hi
      · rw [hb, if_pos rfl] at hi
        simp (disch := omega) only [li_0, li_1, li_2, li_3, li_4, li_5, li_6, li_7, li_8, li_9, li_10, li_11, li_12, li_13, li_14, li_15, li_16, li_17, li_18, li_19, li_20, li_21, li_22, li_23, li_24, li_25, li_26, li_27, li_28, li_29, li_30, li_31, li_32, li_33, li_34, li_35, li_36, li_37, li_38, li_39, li_40, li_41, li_42, li_43, li_44, li_45, li_46, li_47, li_48, li_49, li_50, li_51, li_52, li_53, li_54, li_55, li_56, li_57, li_58, li_59, li_60, li_61, li_62, li_63, li_64, li_65, li_66, li_67, li_68, li_69, li_70, li_71, li_72, li_73, li_74, li_75, li_76, li_77, li_78, li_79, li_80, li_81, li_82, li_83, li_84, li_85, li_86, li_87, li_88, li_89, li_90, li_91, li_92, li_93, li_94, li_95, li_96, li_97, li_98, li_99, li_100, li_101, li_102, li_103, li_104, li_105, li_106, li_107, li_108, li_109, li_110, li_111, li_112, li_113, li_114, li_115, li_116, li_117, li_118, li_119, li_120, li_121, li_122, li_123, li_124, li_125, li_126, li_127, li_128, li_160, li_219, li_220, li_248, li_249, li_250, li_251, li_255, li_999, li_1000, li_1023, li_1024, li_10240, li_999999, li_1048576, li_1048575, nI_add, nI_mul, zi_div, zi_eq, zi_le, zi_lt, zi_in, zi_c, zi_sub, zi_ofN, zi_m1e, zi_m1e', zi_m1lt, zi_m1le, zi_ltm1, zi_lem1, zi_m1m1, jif_T, jif_F, jif_t, jif_f, zb_1, zb_0, zb_01, zb_ft, zn_01a, zn_01b, zi_tst, zi_pow, cond_true, jcI_some, jcV_some, jcJ_some, Nat.reduceAdd, Nat.reduceMul, Nat.reduceSub, reduceCtorEq, Bool.true_eq_false, Bool.false_eq_true, zb_t, zb_f, Nat.add_zero, Nat.zero_add, Nat.mul_zero, Nat.zero_mul, or_true, true_or, or_false, false_or, and_true, true_and, and_false, false_and, not_true_eq_false, not_false_eq_true, zl_and, zl_or, zl_dif, zl_shl, zl_srl, zl_i, zl_w, zl_cmp, zi_b, zi_and, zi_or, zi_sru, jo_some, jo_none, ll_0, ll_1, ll_1048575, ll_1118481, li_16384, li_1073741824, ↓reduceIte, hn, hz, zn_b1, hb, hq]
        rw [e_Maker_finish_145]
        simp (disch := omega) only [li_0, li_1, li_2, li_3, li_4, li_5, li_6, li_7, li_8, li_9, li_10, li_11, li_12, li_13, li_14, li_15, li_16, li_17, li_18, li_19, li_20, li_21, li_22, li_23, li_24, li_25, li_26, li_27, li_28, li_29, li_30, li_31, li_32, li_33, li_34, li_35, li_36, li_37, li_38, li_39, li_40, li_41, li_42, li_43, li_44, li_45, li_46, li_47, li_48, li_49, li_50, li_51, li_52, li_53, li_54, li_55, li_56, li_57, li_58, li_59, li_60, li_61, li_62, li_63, li_64, li_65, li_66, li_67, li_68, li_69, li_70, li_71, li_72, li_73, li_74, li_75, li_76, li_77, li_78, li_79, li_80, li_81, li_82, li_83, li_84, li_85, li_86, li_87, li_88, li_89, li_90, li_91, li_92, li_93, li_94, li_95, li_96, li_97, li_98, li_99, li_100, li_101, li_102, li_103, li_104, li_105, li_106, li_107, li_108, li_109, li_110, li_111, li_112, li_113, li_114, li_115, li_116, li_117, li_118, li_119, li_120, li_121, li_122, li_123, li_124, li_125, li_126, li_127, li_128, li_160, li_219, li_220, li_248, li_249, li_250, li_251, li_255, li_999, li_1000, li_1023, li_1024, li_10240, li_999999, li_1048576, li_1048575, nI_add, nI_mul, zi_div, zi_eq, zi_le, zi_lt, zi_in, zi_c, zi_sub, zi_ofN, zi_m1e, zi_m1e', zi_m1lt, zi_m1le, zi_ltm1, zi_lem1, zi_m1m1, jif_T, jif_F, jif_t, jif_f, zb_1, zb_0, zb_01, zb_ft, zn_01a, zn_01b, zi_tst, zi_pow, cond_true, jcI_some, jcV_some, jcJ_some, Nat.reduceAdd, Nat.reduceMul, Nat.reduceSub, reduceCtorEq, Bool.true_eq_false, Bool.false_eq_true, zb_t, zb_f, Nat.add_zero, Nat.zero_add, Nat.mul_zero, Nat.zero_mul, or_true, true_or, or_false, false_or, and_true, true_and, and_false, false_and, not_true_eq_false, not_false_eq_true, zl_and, zl_or, zl_dif, zl_shl, zl_srl, zl_i, zl_w, zl_cmp, zi_b, zi_and, zi_or, zi_sru, jo_some, jo_none, ll_0, ll_1, ll_1048575, ll_1118481, li_16384, li_1073741824, ↓reduceIte, he]
        exact hi
end CC
/-- keys that can be met, fewer than 10240 -/
def vOk (n : Nat) (Tm : Nat → Nat → Nat) (V : Nat → Prop) (cd : Nat → Nat) (k0 : Nat) : Prop := V k0 ∧ (∀ k l, V k → l < 3 → V (nxM n Tm k l)) ∧ (∀ k, V k → k < 1048576 ∧ cd k < 10240) ∧ ∀ k k', V k → V k' → cd k = cd k' → k = k'
/-- the maker between two uses -/
def mkI (L : Nat) (g : jG) (I : Nat → Nat → Int32) (PC PQ : Nat) : Prop := ∃ kr rr sr gr fr c base N, mkA L g kr rr sr gr fr c ∧ 6 ≤ c ∧ c ≤ 14 ∧ I 19 7 = nI N ∧ I 19 12 = nI base ∧ base + N ≤ 1073900000 ∧ (∀ x, x < 2 * 2 ^ c → ∃ v, v ≤ base + N ∧ I sr x = nI v) ∧ 170 ≤ g.2.2.2.1 ∧ pC g c = PC ∧ pQ g c = PQ ∧ PC ≤ 600000 ∧ PQ ≤ 7302250
/-- the search: N keys, q places of the rows -/
def BF (L : Nat) (g0 : jG) (I0 : Nat → Nat → Int32) (J0 : Nat → Nat → Int64) (PC PQ n s m E : Nat) (stp : Nat → Nat) (V : Nat → Prop) (k0 e N q : Nat) (K T : Nat → Nat) (g : jG) (I : Nat → Nat → Int32) (J : Nat → Nat → Int64) : Prop := ∃ kr rr sr gr fr c base G p σ ν, mkA L g kr rr sr gr fr c ∧ mkM I J n s m E stp e base ∧ mkF I J kr rr sr gr n s m E stp e base N G K p σ ν ∧ e ≤ c ∧ c ≤ 14 ∧ (∀ x, x < 2 * 2 ^ c → ∃ v, v ≤ base + N ∧ I sr x = nI v) ∧ 170 ≤ g.2.2.2.1 ∧ pC g c = PC ∧ pQ g c = PQ ∧ PC ≤ 600000 ∧ PQ ≤ 7302250 ∧ fG L g0 g I0 I J0 J ∧ bf (nxM n (fun q l => sT (stp q) l)) K T N q ∧ K 0 = k0 ∧ (∀ i, i < N → V (K i) ∧ ∃ w, kW w ∧ kDl (nxM n (fun q l => sT (stp q) l)) k0 w = K i) ∧ ∀ x, x < q → I rr (4 * (x / 3) + x % 3) = nI (T x)
theorem BF_N {L g0 I0 J0 PC PQ n s m E stp V k0 e N q K T g I J} {cd : Nat → Nat} (hV : vOk n (fun q l => sT (stp q) l) V cd k0) (h : BF L g0 I0 J0 PC PQ n s m E stp V k0 e N q K T g I J) : N ≤ 10240 := by
  obtain ⟨kr, rr, sr, gr, fr, c, base, G, p, σ, ν, b1, b2, b3, b4, b5, b6, b7, b8, b9, b10, b11, b12, b13, b14, b15, b16⟩ := h
  apply Classical.byContradiction
  intro hN
  obtain ⟨i, j, h1, h2, h3⟩ := kPigeon 10240 (fun i => cd (K i)) (fun i hi => (hV.2.2.1 _ (b15 i (by omega)).1).2)
  have := b13.1 i (by omega) j (by omega) (hV.2.2.2 _ _ (b15 i (by omega)).1 (b15 j (by omega)).1 h3)
  omega
theorem BF_I {L g0 I0 J0 PC PQ n s m E stp V k0 e N q K T g I J} (h : BF L g0 I0 J0 PC PQ n s m E stp V k0 e N q K T g I J) : mkI L g I PC PQ := by
  obtain ⟨kr, rr, sr, gr, fr, c, base, G, p, σ, ν, b1, b2, b3, b4, b5, b6, b7, b8, b9, b10, b11, b12, b13, b14, b15, b16⟩ := h
  obtain ⟨m1, m2, m3, m4, m5, m6, m7, m8, m9, m10, m11, m12, m13⟩ := b2
  have hp2 : 2 ^ e ≤ 2 ^ 14 := Nat.pow_le_pow_right (by omega) m10
  have := b3.2.2.2.1
  exact ⟨kr, rr, sr, gr, fr, c, base, N, b1, by omega, b5, b3.1, m5, by omega, b6, b7, b8, b9, b10, b11⟩
theorem mk_row {L g kr rr sr gr fr c n s m E e base N G r l} {stp K p σ ν : Nat → Nat} {I : Nat → Nat → Int32} {J : Nat → Nat → Int64} {x : Int32} (hA : mkA L g kr rr sr gr fr c) (hM : mkM I J n s m E stp e base) (hF : mkF I J kr rr sr gr n s m E stp e base N G K p σ ν) (hl : l < 3) : mkM (ju I rr (4 * r + l) x) J n s m E stp e base ∧ mkF (ju I rr (4 * r + l) x) J kr rr sr gr n s m E stp e base N G K p σ ν ∧ ju I rr (4 * r + l) x sr = I sr := by
  obtain ⟨a1, a2, a3, a4, a5, a6, a7, a8, a9, a10, a11, a12, a13, a14, a15, a16, a17, a18, a19, a20, a21, a22, a23, a24⟩ := hA
  obtain ⟨m1, m2, m3, m4, m5, m6, m7, m8, m9, m10, m11, m12, m13⟩ := hM
  obtain ⟨f1, f2, f3, f4, f5, f6, f7, f8, f9, f10⟩ := hF
  have n2 : 19 ≠ rr := ne_K (gK_19 L g) a7 (by omega)
  have n6 : gr ≠ rr := ne_K a9 a7 (by omega)
  refine ⟨⟨by rw [zu_a n2]; exact m1, by rw [zu_a n2]; exact m2, by rw [zu_a n2]; exact m3, by rw [zu_a n2]; exact m4, by rw [zu_a n2]; exact m5, m6, m7, m8, m9, m10, m11, m12, m13⟩, ⟨by rw [zu_a n2]; exact f1, by rw [zu_a n2]; exact f2, f3, f4, fun i hi => by rw [zu_a a16]; exact f5 i hi, by rw [zu_row (by omega)]; exact f6, f7, f8, fun i hi => by rw [zu_a n6]; exact f9 i hi, fun i hi => by rw [zu_k (by omega)]; exact f10 i hi⟩, zu_row (by omega)⟩
theorem mkO_rr {L g kr rr sr gr fr c} (hA : mkA L g kr rr sr gr fr c) {a : Nat} (h : ¬ mkO g a) : a ≠ kr ∧ a ≠ rr ∧ a ≠ sr ∧ a ≠ gr ∧ a ≠ fr ∧ a ≠ 19 ∧ a ≠ 20 ∧ a ≠ 21 ∧ a ≠ 22 ∧ a ≠ 23 ∧ a ≠ 29 := by
  obtain ⟨a1, a2, a3, a4, a5, -⟩ := hA
  unfold mkO at h
  rw [a1, a2, a3, a4, a5] at h
  refine ⟨fun e => h ?_, fun e => h ?_, fun e => h ?_, fun e => h ?_, fun e => h ?_, fun e => h ?_, fun e => h ?_, fun e => h ?_, fun e => h ?_, fun e => h ?_, fun e => h ?_⟩ <;> subst e <;> simp only [true_or, or_true]
section CC
variable (d L : Nat)
/-- one letter of a state's row -/
theorem c_fin_in {g0 g : jG} {I0 I : Nat → Nat → Int32} {J0 J : Nat → Nat → Int64} {PC PQ n s m E k0 e N r l a2 : Nat} {stp K T cd : Nat → Nat} {V : Nat → Prop} (hV : vOk n (fun q l => sT (stp q) l) V cd k0) (hsp : kSp n s m (fun q l => sT (stp q) l)) (h : BF L g0 I0 J0 PC PQ n s m E stp V k0 e N (3 * r + l) K T g I J) (hr : r < N) (hl : l < 3) (hN : N < 2 ^ e) :
    (kBig (kG (nxM n (fun q l => sT (stp q) l)) (enM n s m (fun q l => sT (stp q) l) E) k0) ∧ ∃ I', mkI L g I' PC PQ ∧ fG L g0 g I0 I' J0 J ∧ jval (d + 1) 42 160 [.ref 19, jjunk, .ref a2, .int (nI 1), .int (nI r), .long (lN (kNr stp (K r) n)), jjunk, jjunk, .int (nI l), jjunk] [] (jGs L g, I, J) = some (some (.int (nI 0)), (jGs L g, I', J))) ∨
    ∃ N' K' T' I' J', N ≤ N' ∧ N' ≤ N + 1 ∧ (∀ i, i < N → K' i = K i) ∧ (∀ q, q < 3 * r + l → T' q = T q) ∧ BF L g0 I0 J0 PC PQ n s m E stp V k0 e N' (3 * r + l + 1) K' T' g I' J' ∧ jval (d + 1) 42 160 [.ref 19, jjunk, .ref a2, .int (nI 1), .int (nI r), .long (lN (kNr stp (K r) n)), jjunk, jjunk, .int (nI l), jjunk] [] (jGs L g, I, J) = jval (d + 1) 42 160 [.ref 19, jjunk, .ref a2, .int (nI 1), .int (nI r), .long (lN (kNr stp (K r) n)), jjunk, jjunk, .int (nI (l + 1)), jjunk] [] (jGs L g, I', J') := by
  have hN' := BF_N hV h
  obtain ⟨kr, rr, sr, gr, fr, c, base, G, p, σ, ν, hA, hM, hF, b4, b5, b6, b7, b8, b9, b10, b11, b12, b13, b14, b15, b16⟩ := id h
  obtain ⟨a1, a2', a3, a4, a5, a6, a7, a8, a9, a10, a11, a12, a13, a14, a15, a16, a17, a18, a19, a20, a21, a22, a23, a24⟩ := id hA
  obtain ⟨m1, m2, m3, m4, m5, m6, m7, m8, m9, m10, m11, m12, m13⟩ := id hM
  have hp2 : 2 ^ e ≤ 2 ^ 14 := Nat.pow_le_pow_right (by omega) m10
  have hp3 : 2 ^ e ≤ 2 ^ c := Nat.pow_le_pow_right (by omega) b4
  have hp5 : 2 ^ c ≤ 2 ^ 14 := Nat.pow_le_pow_right (by omega) b5
  have k2 : (jGs L g).1 rr = 15 := a7
  have l2 : (jGs L g).2.1 rr = 4 * 2 ^ c := a12
  have n2 : 19 ≠ rr := ne_K (gK_19 L g) a7 (by omega)
  have e3 : (3 * r + l) / 3 = r := by omega
  have e4 : (3 * r + l) % 3 = l := by omega
  have hto : kNr stp (K r) n < 9223372036854775808 := Nat.lt_of_lt_of_le (kNr_lt (b := 60) (fun q hq => (m12 q hq).2)) (by decide)
  have hy : nxM n (fun q l => sT (stp q) l) (K r) l < 1048576 := nxM_lt
  have e160 : jval (d + 1) 42 160 [.ref 19, jjunk, .ref a2, .int (nI 1), .int (nI r), .long (lN (kNr stp (K r) n)), jjunk, jjunk, .int (nI l), jjunk] [] (jGs L g, I, J) = jcI (jcall (d + 1) 43 [.ref 19, .int (nI (nxM n (fun q l => sT (stp q) l) (K r) l))] (jGs L g, I, J)) (fun r2 S1 => jval (d + 1) 42 187 [.ref 19, jjunk, .ref a2, jjunk, .int (nI r), .long (lN (kNr stp (K r) n)), jjunk, jjunk, .int (nI l), jjunk] [.int r2] S1) := by
    rw [e_Maker_finish_160]
    simp (disch := omega) only [li_0, li_1, li_2, li_3, li_4, li_5, li_6, li_7, li_8, li_9, li_10, li_11, li_12, li_13, li_14, li_15, li_16, li_17, li_18, li_19, li_20, li_21, li_22, li_23, li_24, li_25, li_26, li_27, li_28, li_29, li_30, li_31, li_32, li_33, li_34, li_35, li_36, li_37, li_38, li_39, li_40, li_41, li_42, li_43, li_44, li_45, li_46, li_47, li_48, li_49, li_50, li_51, li_52, li_53, li_54, li_55, li_56, li_57, li_58, li_59, li_60, li_61, li_62, li_63, li_64, li_65, li_66, li_67, li_68, li_69, li_70, li_71, li_72, li_73, li_74, li_75, li_76, li_77, li_78, li_79, li_80, li_81, li_82, li_83, li_84, li_85, li_86, li_87, li_88, li_89, li_90, li_91, li_92, li_93, li_94, li_95, li_96, li_97, li_98, li_99, li_100, li_101, li_102, li_103, li_104, li_105, li_106, li_107, li_108, li_109, li_110, li_111, li_112, li_113, li_114, li_115, li_116, li_117, li_118, li_119, li_120, li_121, li_122, li_123, li_124, li_125, li_126, li_127, li_128, li_160, li_219, li_220, li_248, li_249, li_250, li_251, li_255, li_999, li_1000, li_1023, li_1024, li_10240, li_999999, li_1048576, li_1048575, nI_add, nI_mul, zi_div, zi_eq, zi_le, zi_lt, zi_in, zi_c, zi_sub, zi_ofN, zi_m1e, zi_m1e', zi_m1lt, zi_m1le, zi_ltm1, zi_lem1, zi_m1m1, jif_T, jif_F, jif_t, jif_f, zb_1, zb_0, zb_01, zb_ft, zn_01a, zn_01b, zi_tst, zi_pow, cond_true, jcI_some, jcV_some, jcJ_some, Nat.reduceAdd, Nat.reduceMul, Nat.reduceSub, reduceCtorEq, Bool.true_eq_false, Bool.false_eq_true, zb_t, zb_f, Nat.add_zero, Nat.zero_add, Nat.mul_zero, Nat.zero_mul, or_true, true_or, or_false, false_or, and_true, true_and, and_false, false_and, not_true_eq_false, not_false_eq_true, zl_and, zl_or, zl_dif, zl_shl, zl_srl, zl_i, zl_w, zl_cmp, zi_b, zi_and, zi_or, zi_sru, jo_some, jo_none, ll_0, ll_1, ll_1048575, ll_1118481, li_16384, li_1073741824, ↓reduceIte, zn_m20, kNr_sT]
  have hVy := hV.2.1 _ _ (b15 r hr).1 hl
  have hwy : ∃ w, kW w ∧ kDl (nxM n (fun q l => sT (stp q) l)) k0 w = nxM n (fun q l => sT (stp q) l) (K r) l := by
    obtain ⟨w, w1, w2⟩ := (b15 r hr).2
    exact ⟨w ++ [l], kW_app w1 (kW_cons hl kW_nil), by rw [kDl_s, w2]⟩
  have hrow : ∀ (I1 : Nat → Nat → Int32) (J1 : Nat → Nat → Int64) (i : Nat), i < 10241 → jval (d + 1) 42 187 [.ref 19, jjunk, .ref a2, jjunk, .int (nI r), .long (lN (kNr stp (K r) n)), jjunk, jjunk, .int (nI l), jjunk] [.int (nI i)] (jGs L g, I1, J1) = jval (d + 1) 42 160 [.ref 19, jjunk, .ref a2, .int (nI 1), .int (nI r), .long (lN (kNr stp (K r) n)), jjunk, jjunk, .int (nI (l + 1)), jjunk] [] (jGs L g, ju I1 rr (4 * r + l) (nI i), J1) := by
    intro I1 J1 i hi
    rw [e_Maker_finish_187]
    simp (disch := omega) only [li_0, li_1, li_2, li_3, li_4, li_5, li_6, li_7, li_8, li_9, li_10, li_11, li_12, li_13, li_14, li_15, li_16, li_17, li_18, li_19, li_20, li_21, li_22, li_23, li_24, li_25, li_26, li_27, li_28, li_29, li_30, li_31, li_32, li_33, li_34, li_35, li_36, li_37, li_38, li_39, li_40, li_41, li_42, li_43, li_44, li_45, li_46, li_47, li_48, li_49, li_50, li_51, li_52, li_53, li_54, li_55, li_56, li_57, li_58, li_59, li_60, li_61, li_62, li_63, li_64, li_65, li_66, li_67, li_68, li_69, li_70, li_71, li_72, li_73, li_74, li_75, li_76, li_77, li_78, li_79, li_80, li_81, li_82, li_83, li_84, li_85, li_86, li_87, li_88, li_89, li_90, li_91, li_92, li_93, li_94, li_95, li_96, li_97, li_98, li_99, li_100, li_101, li_102, li_103, li_104, li_105, li_106, li_107, li_108, li_109, li_110, li_111, li_112, li_113, li_114, li_115, li_116, li_117, li_118, li_119, li_120, li_121, li_122, li_123, li_124, li_125, li_126, li_127, li_128, li_160, li_219, li_220, li_248, li_249, li_250, li_251, li_255, li_999, li_1000, li_1023, li_1024, li_10240, li_999999, li_1048576, li_1048575, nI_add, nI_mul, zi_div, zi_eq, zi_le, zi_lt, zi_in, zi_c, zi_sub, zi_ofN, zi_m1e, zi_m1e', zi_m1lt, zi_m1le, zi_ltm1, zi_lem1, zi_m1m1, jif_T, jif_F, jif_t, jif_f, zb_1, zb_0, zb_01, zb_ft, zn_01a, zn_01b, zi_tst, zi_pow, cond_true, jcI_some, jcV_some, jcJ_some, Nat.reduceAdd, Nat.reduceMul, Nat.reduceSub, reduceCtorEq, Bool.true_eq_false, Bool.false_eq_true, zb_t, zb_f, Nat.add_zero, Nat.zero_add, Nat.mul_zero, Nat.zero_mul, or_true, true_or, or_false, false_or, and_true, true_and, and_false, false_and, not_true_eq_false, not_false_eq_true]
    rw [e_Maker_finish_199]
    simp (disch := omega) only [li_0, li_1, li_2, li_3, li_4, li_5, li_6, li_7, li_8, li_9, li_10, li_11, li_12, li_13, li_14, li_15, li_16, li_17, li_18, li_19, li_20, li_21, li_22, li_23, li_24, li_25, li_26, li_27, li_28, li_29, li_30, li_31, li_32, li_33, li_34, li_35, li_36, li_37, li_38, li_39, li_40, li_41, li_42, li_43, li_44, li_45, li_46, li_47, li_48, li_49, li_50, li_51, li_52, li_53, li_54, li_55, li_56, li_57, li_58, li_59, li_60, li_61, li_62, li_63, li_64, li_65, li_66, li_67, li_68, li_69, li_70, li_71, li_72, li_73, li_74, li_75, li_76, li_77, li_78, li_79, li_80, li_81, li_82, li_83, li_84, li_85, li_86, li_87, li_88, li_89, li_90, li_91, li_92, li_93, li_94, li_95, li_96, li_97, li_98, li_99, li_100, li_101, li_102, li_103, li_104, li_105, li_106, li_107, li_108, li_109, li_110, li_111, li_112, li_113, li_114, li_115, li_116, li_117, li_118, li_119, li_120, li_121, li_122, li_123, li_124, li_125, li_126, li_127, li_128, li_160, li_219, li_220, li_248, li_249, li_250, li_251, li_255, li_999, li_1000, li_1023, li_1024, li_10240, li_999999, li_1048576, li_1048575, nI_add, nI_mul, zi_div, zi_eq, zi_le, zi_lt, zi_in, zi_c, zi_sub, zi_ofN, zi_m1e, zi_m1e', zi_m1lt, zi_m1le, zi_ltm1, zi_lem1, zi_m1m1, jif_T, jif_F, jif_t, jif_f, zb_1, zb_0, zb_01, zb_ft, zn_01a, zn_01b, zi_tst, zi_pow, cond_true, jcI_some, jcV_some, jcJ_some, Nat.reduceAdd, Nat.reduceMul, Nat.reduceSub, reduceCtorEq, Bool.true_eq_false, Bool.false_eq_true, zb_t, zb_f, Nat.add_zero, Nat.zero_add, Nat.mul_zero, Nat.zero_mul, or_true, true_or, or_false, false_or, and_true, true_and, and_false, false_and, not_true_eq_false, not_false_eq_true, jo_some, ↓reduceIte, a2', k2, l2]
  rw [e160]
  rcases c_place d L g hA hM hF b4 b5 hy hN with ⟨i, i1, i2, i3⟩ | ⟨hno, hG, hσ, i3⟩ | ⟨hno, I1, J1, G', p', σ', ν', q1, q2, q3, q4⟩
  · right
    rw [i3, jcI_some, hrow I J i (by omega)]
    obtain ⟨w1, w2, w3⟩ := mk_row (r := r) (x := nI i) hA hM hF hl
    refine ⟨N, K, jup T (3 * r + l) i, ju I rr (4 * r + l) (nI i), J, Nat.le_refl _, by omega, fun _ _ => rfl, fun q hq => jup_n (by omega), ⟨kr, rr, sr, gr, fr, c, base, G, p, σ, ν, hA, w1, w2, b4, b5, fun x hx => by rw [w3]; exact b6 x hx, b7, b8, b9, b10, b11, fG_trans b12 (fG_same (fun a ha => ⟨ju_n (mkO_rr hA ha).2.1, rfl⟩)), bf_old b13 (by rw [e3]; exact hr) i1 (by rw [e3, e4]; exact i2), b14, b15, fun x hx => ?_⟩, rfl⟩
    by_cases hxq : x = 3 * r + l
    · rw [hxq, e3, e4, zu_at, jup_s]
    · rw [jup_n hxq, zu_k (by omega)]; exact b16 x (by omega)
  · left
    obtain ⟨f1, f2, f3, f4, f5, f6, f7, f8, f9, f10⟩ := id hF
    refine ⟨?_, ju I rr (4 * r + l) (-1), ?_, fG_trans b12 (fG_same (fun a ha => ⟨ju_n (mkO_rr hA ha).2.1, rfl⟩)), ?_⟩
    · have hrep : ∀ a, ∃ k, a < 10 → k < N ∧ ν k = a := fun a => by
        by_cases ha : a < 10
        · obtain ⟨k, k1, k2, -⟩ := f7.2.2 a (by omega)
          exact ⟨k, fun _ => ⟨k1, k2⟩⟩
        · exact ⟨0, fun h => absurd h ha⟩
      obtain ⟨rep, hrp⟩ := Classical.axiomOfChoice hrep
      have hsg : ∀ a, a < 10 → sgK E n s m stp (K (rep a)) = σ a := fun a ha => by
        have h1 := hrp a ha
        have h2 := (f7.2.1 _ h1.1).2
        rw [h1.2] at h2
        exact h2.symm
      refine kBig_11 (fun a => if a < 10 then K (rep a) else nxM n (fun q l => sT (stp q) l) (K r) l) (fun a ha => ?_) (fun a ha b hb hab => ?_)
      · by_cases h10 : a < 10
        · rw [if_pos h10]; exact (b15 _ (hrp a h10).1).2
        · rw [if_neg h10]; exact hwy
      · rw [if_pos (show a < 10 by omega)]
        have key : sgK E n s m stp (K (rep a)) ≠ sgK E n s m stp (if b < 10 then K (rep b) else nxM n (fun q l => sT (stp q) l) (K r) l) := by
          rw [hsg a (by omega)]
          by_cases h10 : b < 10
          · rw [if_pos h10, hsg b h10]
            exact fun e => by have := f7.1 a (by omega) b (by omega) e; omega
          · rw [if_neg h10]; exact hσ a (by omega)
        obtain ⟨w, w1, w2⟩ := sgK_ne m8 key
        exact ⟨w, w1, by rw [kG_M hsp w _ w1, kG_M hsp w _ w1]; exact w2⟩
    · obtain ⟨kr, rr, sr, gr, fr, c, base, N, z1, z2, z3, z4, z5, z6, z7, z8, z9⟩ := BF_I h
      have : rr = _ := Option.some.inj (z1.2.1.symm.trans a2')
      subst this
      exact ⟨kr, rr, sr, gr, fr, c, base, N, z1, z2, z3, by rw [zu_a n2]; exact z4, by rw [zu_a n2]; exact z5, z6, fun x hx => by rw [zu_a (fun e => z1.2.2.2.2.2.2.2.2.2.2.2.2.2.2.2.2.2.1 e.symm)]; exact z7 x hx, z8, z9⟩
    · rw [i3, jcI_some, e_Maker_finish_187, show (-1 : Int32) = -nI 1 from rfl, jif_t (show -nI 1 < (0 : Int32) by decide), e_Maker_finish_199]
      simp (disch := omega) only [li_0, li_1, li_2, li_3, li_4, li_5, li_6, li_7, li_8, li_9, li_10, li_11, li_12, li_13, li_14, li_15, li_16, li_17, li_18, li_19, li_20, li_21, li_22, li_23, li_24, li_25, li_26, li_27, li_28, li_29, li_30, li_31, li_32, li_33, li_34, li_35, li_36, li_37, li_38, li_39, li_40, li_41, li_42, li_43, li_44, li_45, li_46, li_47, li_48, li_49, li_50, li_51, li_52, li_53, li_54, li_55, li_56, li_57, li_58, li_59, li_60, li_61, li_62, li_63, li_64, li_65, li_66, li_67, li_68, li_69, li_70, li_71, li_72, li_73, li_74, li_75, li_76, li_77, li_78, li_79, li_80, li_81, li_82, li_83, li_84, li_85, li_86, li_87, li_88, li_89, li_90, li_91, li_92, li_93, li_94, li_95, li_96, li_97, li_98, li_99, li_100, li_101, li_102, li_103, li_104, li_105, li_106, li_107, li_108, li_109, li_110, li_111, li_112, li_113, li_114, li_115, li_116, li_117, li_118, li_119, li_120, li_121, li_122, li_123, li_124, li_125, li_126, li_127, li_128, li_160, li_219, li_220, li_248, li_249, li_250, li_251, li_255, li_999, li_1000, li_1023, li_1024, li_10240, li_999999, li_1048576, li_1048575, nI_add, nI_mul, zi_div, zi_eq, zi_le, zi_lt, zi_in, zi_c, zi_sub, zi_ofN, zi_m1e, zi_m1e', zi_m1lt, zi_m1le, zi_ltm1, zi_lem1, zi_m1m1, jif_T, jif_F, jif_t, jif_f, zb_1, zb_0, zb_01, zb_ft, zn_01a, zn_01b, zi_tst, zi_pow, cond_true, jcI_some, jcV_some, jcJ_some, Nat.reduceAdd, Nat.reduceMul, Nat.reduceSub, reduceCtorEq, Bool.true_eq_false, Bool.false_eq_true, zb_t, zb_f, Nat.add_zero, Nat.zero_add, Nat.mul_zero, Nat.zero_mul, or_true, true_or, or_false, false_or, and_true, true_and, and_false, false_and, not_true_eq_false, not_false_eq_true, jo_some, ↓reduceIte, a2', k2, l2]
      rw [e_Maker_finish_160, jif_t (by decide), e_Maker_finish_220, e_Maker_finish_37, jif_t (by decide), e_Maker_finish_226, jif_t (by decide), e_Maker_finish_237, jb01_0]
      rfl
  · right
    rw [q4, jcI_some, hrow I1 J1 N (by omega)]
    have hM1 := mkM_f hM q1
    obtain ⟨w1, w2, w3⟩ := mk_row (r := r) (x := nI N) hA hM1 q3 hl
    have hbn := bf_new b13 (by rw [e3]; exact hr) (fun i hi => by rw [e3, e4]; exact hno i hi)
    rw [e3, e4] at hbn
    refine ⟨N + 1, jup K N (nxM n (fun q l => sT (stp q) l) (K r) l), jup T (3 * r + l) N, ju I1 rr (4 * r + l) (nI N), J1, by omega, by omega, fun i hi => jup_n (by omega), fun q hq => jup_n (by omega), ⟨kr, rr, sr, gr, fr, c, base, G', p', σ', ν', hA, w1, w2, b4, b5, fun x hx => ?_, b7, b8, b9, b10, b11, fG_trans b12 (fG_same (fun a ha => ?_)), hbn, by rw [jup_n (by omega)]; exact b14, fun i hi => ?_, fun x hx => ?_⟩, rfl⟩
    · rw [w3]
      rcases q2 x with hq | hq
      · obtain ⟨v, v1, v2⟩ := b6 x hx
        exact ⟨v, by omega, hq.trans v2⟩
      · exact ⟨base + (N + 1), by omega, hq⟩
    · obtain ⟨o1, o2, o3, o4, o5, o6, o7, o8, o9, o10, o11⟩ := mkO_rr hA ha
      exact ⟨by rw [ju_n o2]; exact q1.1 a o1 o2 o3 o4 o6, q1.2.2.2 a o11⟩
    · by_cases hiN : i = N
      · rw [hiN, jup_s]; exact ⟨hVy, hwy⟩
      · rw [jup_n hiN]; exact b15 i (by omega)
    · by_cases hxq : x = 3 * r + l
      · rw [hxq, e3, e4, zu_at, jup_s]
      · rw [jup_n hxq, zu_k (by omega), q1.2.2.1 _ _ (by omega)]; exact b16 x (by omega)
end CC

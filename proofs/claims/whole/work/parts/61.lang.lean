/-! THE CLASS: a language in its cell -/
set_option maxRecDepth 100000
/-- n numbers of four bits in one -/
def np (f : Nat → Nat) : Nat → Nat
  | 0 => 0
  | n + 1 => np f n + f n * 16 ^ n
theorem np_lt {f : Nat → Nat} (h : ∀ j, f j < 16) : ∀ n, np f n < 16 ^ n
  | 0 => by show 0 < 1; omega
  | n + 1 => by
    have h1 := np_lt h n
    have h2 := h n
    have h3 : f n * 16 ^ n ≤ 15 * 16 ^ n := Nat.mul_le_mul_right _ (by omega)
    show np f n + f n * 16 ^ n < 16 ^ (n + 1)
    rw [Nat.pow_succ]
    omega
theorem np_at {f : Nat → Nat} (h : ∀ j, f j < 16) : ∀ n j, j < n → np f n / 16 ^ j % 16 = f j
  | 0, j, hj => absurd hj (by omega)
  | n + 1, j, hj => by
    show (np f n + f n * 16 ^ n) / 16 ^ j % 16 = f j
    have hp : 0 < 16 ^ j := Nat.pow_pos (by omega)
    by_cases hjn : j = n
    · subst hjn
      rw [Nat.add_mul_div_right _ _ hp, Nat.div_eq_of_lt (np_lt h j), Nat.zero_add, Nat.mod_eq_of_lt (h j)]
    · have e : 16 ^ n = 16 ^ (n - j - 1) * 16 * 16 ^ j := by
        rw [← Nat.pow_succ, ← Nat.pow_add]; congr 1; omega
      rw [e, ← Nat.mul_assoc, Nat.add_mul_div_right _ _ hp, ← Nat.mul_assoc, Nat.add_mul_mod_self_right]
      exact np_at h n j (by omega)
theorem np_cg {f f' : Nat → Nat} : ∀ n, (∀ j, j < n → f' j = f j) → np f' n = np f n
  | 0, _ => rfl
  | n + 1, h => by
    show np f' n + f' n * 16 ^ n = np f n + f n * 16 ^ n
    rw [np_cg n (fun j hj => h j (by omega)), h n (by omega)]
theorem np_z {f : Nat → Nat} : ∀ n, (∀ j, j < n → f j = 0) → np f n = 0
  | 0, _ => rfl
  | n + 1, h => by
    show np f n + f n * 16 ^ n = 0
    rw [np_z n (fun j hj => h j (by omega)), h n (by omega), Nat.zero_mul]
/-- the steps of five states from s on -/
def kPk (A : kA) (s : Nat) : Nat := np (fun j => A.2.2 (s + j / 3) (j % 3)) 15
/-- a cell of a language -/
def cR (L : Nat) (g : jG) (I : Nat → Nat → Int32) (J : Nat → Nat → Int64) (a : Nat) (A : kA) : Prop := gK L g a = 2 ∧ kV A ∧ J a 0 = lN (kPk A 0) ∧ J a 1 = lN (kPk A 5) ∧ I a 2 = nI (kEm A.2.1 A.1) ∧ I a 3 = nI A.1
theorem kV_to {A : kA} (h : kV A) (q l : Nat) : A.2.2 q l < 10 := by
  by_cases hq : q < A.1 ∧ l < 3
  · have := h.1.1.2 q hq.1 l hq.2
    have := h.2.1
    omega
  · rw [h.2.2.2 q l (by omega)]; omega
theorem kV_t16 {A : kA} (h : kV A) (s : Nat) (j : Nat) : A.2.2 (s + j / 3) (j % 3) < 16 := Nat.lt_trans (kV_to h _ _) (by omega)
theorem kPk_lt {A : kA} (h : kV A) (s : Nat) : kPk A s < 1152921504606846976 := np_lt (kV_t16 h s) 15
theorem kPk_at {A : kA} (h : kV A) (s q l : Nat) (hq : q < 5) (hl : l < 3) : kPk A s / 2 ^ (12 * q + 4 * l) % 16 = A.2.2 (s + q) l := by
  have := np_at (kV_t16 h s) 15 (3 * q + l) (by omega)
  rw [show (3 * q + l) / 3 = q by omega, show (3 * q + l) % 3 = l by omega] at this
  rw [show 2 ^ (12 * q + 4 * l) = 16 ^ (3 * q + l) by rw [show (16 : Nat) = 2 ^ 4 from rfl, ← Nat.pow_mul]; congr 1; omega]
  exact this
theorem kEm_lt10 {A : kA} (h : kV A) : kEm A.2.1 A.1 < 1024 := Nat.lt_of_lt_of_le (kEm_lt _ _) (Nat.pow_le_pow_right (n := 2) (by omega) h.2.1)
theorem kV_end {A : kA} (h : kV A) (r : Nat) : (kEm A.2.1 A.1).testBit r = A.2.1 r := by
  rw [kEm_bit]
  by_cases hr : r < A.1
  · rw [decide_eq_true hr, Bool.true_and]
  · rw [decide_eq_false hr, Bool.false_and, h.2.2.1 r (by omega)]
/-- equal fields, equal values -/
theorem kV_fields {A B : kA} (hA : kV A) (hB : kV B) (h0 : kPk A 0 = kPk B 0) (h1 : kPk A 5 = kPk B 5) (h2 : kEm A.2.1 A.1 = kEm B.2.1 B.1) (h3 : A.1 = B.1) : A = B := by
  refine kA_ext hA.2.2 hB.2.2 h3 (fun q _ => by rw [← kV_end hA q, ← kV_end hB q, h2]) (fun q hq l hl => ?_)
  have := hA.2.1
  by_cases h5 : q < 5
  · have e1 := kPk_at hA 0 q l h5 hl
    have e2 := kPk_at hB 0 q l h5 hl
    rw [Nat.zero_add] at e1 e2
    rw [← e1, ← e2, h0]
  · have e1 := kPk_at hA 5 (q - 5) l (by omega) hl
    have e2 := kPk_at hB 5 (q - 5) l (by omega) hl
    rw [show 5 + (q - 5) = q by omega] at e1 e2
    rw [← e1, ← e2, h1]
/-- nothing, the empty text alone -/
def kNo : kA := (1, fun _ => false, fun _ _ => 0)
def kEp : kA := (2, fun q => decide (q = 0), fun q l => if q < 2 ∧ l < 3 then 1 else 0)
theorem kNo_V : kV kNo := by
  refine ⟨⟨⟨by decide, fun q _ l _ => by show 0 < 1; omega⟩, fun i hi j hj _ => by have h1 : i < 1 := hi; have h2 : j < 1 := hj; omega, fun p _ => by show 0 ≤ _; omega, fun i hi => by have h1 : i < 1 := hi; omega⟩, by decide, fun _ _ => rfl, fun _ _ _ => rfl⟩
theorem kEp_V : kV kEp := by
  have hM1 : ∀ p, 0 < p → p ≤ 6 → kM kEp p = 1 := by
    intro p h1 h2
    have : p = 1 ∨ p = 2 ∨ p = 3 ∨ p = 4 ∨ p = 5 ∨ p = 6 := by omega
    rcases this with h | h | h | h | h | h <;> subst h <;> decide
  refine ⟨⟨⟨by decide, fun q _ l _ => ?_⟩, fun i hi j hj hs => ?_, fun p hp => ?_, fun i hi => ?_⟩, by decide, fun q hq => ?_, fun q l h => ?_⟩
  · show (if q < 2 ∧ l < 3 then 1 else 0) < 2
    split <;> omega
  · have h1 : i < 2 := hi
    have h2 : j < 2 := hj
    have h3 : decide (i = 0) = decide (j = 0) := hs [] kW_nil
    rw [decide_eq_decide] at h3
    omega
  · have h1 : kS kEp p ≤ 1 := by
      show (if p / 3 < 2 ∧ p % 3 < 3 then 1 else 0) ≤ 1
      split <;> omega
    omega
  · have h1 : i < 2 := hi
    by_cases h0 : i = 0
    · omega
    · rw [hM1 (3 * i) (by omega) (by omega)]; omega
  · have : 2 ≤ q := hq
    show decide (q = 0) = false
    exact decide_eq_false (by omega)
  · have : 2 ≤ q ∨ 3 ≤ l := h
    show (if q < 2 ∧ l < 3 then 1 else 0) = 0
    rw [if_neg (by omega)]
theorem kPk_all (s : Nat) : kPk kAll s = 0 := np_z 15 (fun _ _ => rfl)
theorem kPk_no (s : Nat) : kPk kNo s = 0 := np_z 15 (fun _ _ => rfl)
theorem kPk_ep0 : kPk kEp 0 = 1118481 := by decide
theorem kPk_ep5 : kPk kEp 5 = 0 := by decide
section CC
variable (d L : Nat) (g : jG) {I : Nat → Nat → Int32} {J : Nat → Nat → Int64}
theorem cR_cg {a : Nat} {A : kA} {g' : jG} {I' : Nat → Nat → Int32} {J' : Nat → Nat → Int64} (h : cR L g I J a A) (hk : gK L g' a = gK L g a) (hI : I' a = I a) (hJ : J' a = J a) : cR L g' I' J' a A := by
  obtain ⟨h1, h2, h3, h4, h5, h6⟩ := h
  unfold cR
  rw [hk, hI, hJ]
  exact ⟨h1, h2, h3, h4, h5, h6⟩
theorem c_to {a : Nat} {A : kA} (h : cR L g I J a A) {s l : Nat} (hs : s < 10) (hl : l < 3) : jcall (d + 1) 21 [.ref a, .int (nI s), .int (nI l)] (jGs L g, I, J) = some (some (.int (nI (A.2.2 s l))), (jGs L g, I, J)) := by
  obtain ⟨h1, h2, h3, h4, h5, h6⟩ := h
  have b0 := kPk_lt h2 0
  have b5 := kPk_lt h2 5
  have n1 : (jGs L g).1 a = 2 := h1
  rw [c_Lang_to, e_Lang_to_0, n1, h3, h4]
  by_cases h5 : s < 5
  · have e := kPk_at h2 0 s l h5 hl
    rw [Nat.zero_add] at e
    simp (disch := omega) only [li_0, li_1, li_2, li_3, li_4, li_5, li_6, li_7, li_8, li_9, li_10, li_11, li_12, li_13, li_14, li_15, li_16, li_17, li_18, li_19, li_20, li_21, li_22, li_23, li_24, li_25, li_26, li_27, li_28, li_29, li_30, li_31, li_32, li_33, li_34, li_35, li_36, li_37, li_38, li_39, li_40, li_41, li_42, li_43, li_44, li_45, li_46, li_47, li_48, li_49, li_50, li_51, li_52, li_53, li_54, li_55, li_56, li_57, li_58, li_59, li_60, li_61, li_62, li_63, li_64, li_65, li_66, li_67, li_68, li_69, li_70, li_71, li_72, li_73, li_74, li_75, li_76, li_77, li_78, li_79, li_80, li_81, li_82, li_83, li_84, li_85, li_86, li_87, li_88, li_89, li_90, li_91, li_92, li_93, li_94, li_95, li_96, li_97, li_98, li_99, li_100, li_101, li_102, li_103, li_104, li_105, li_106, li_107, li_108, li_109, li_110, li_111, li_112, li_113, li_114, li_115, li_116, li_117, li_118, li_119, li_120, li_121, li_122, li_123, li_124, li_125, li_126, li_127, li_128, li_160, li_219, li_220, li_248, li_249, li_250, li_251, li_255, li_999, li_1000, li_1023, li_1024, li_10240, li_999999, li_1048576, li_1048575, nI_add, nI_mul, zi_div, zi_eq, zi_le, zi_lt, zi_in, zi_c, zi_sub, zi_ofN, zi_m1e, zi_m1e', zi_m1lt, zi_m1le, zi_ltm1, zi_lem1, zi_m1m1, jif_T, jif_F, jif_t, jif_f, zb_1, zb_0, zb_01, zb_ft, zn_01a, zn_01b, zi_tst, zi_pow, cond_true, jcI_some, jcV_some, jcJ_some, Nat.reduceAdd, Nat.reduceMul, Nat.reduceSub, reduceCtorEq, Bool.true_eq_false, Bool.false_eq_true, zb_t, zb_f, Nat.add_zero, Nat.zero_add, Nat.mul_zero, Nat.zero_mul, or_true, true_or, or_false, false_or, and_true, true_and, and_false, false_and, not_true_eq_false, not_false_eq_true, zl_and, zl_or, zl_dif, zl_shl, zl_srl, zl_i, zl_w, zl_cmp, zi_b, zi_and, zi_or, zi_sru, jo_some, jo_none, ll_0, ll_1, ll_1048575, ll_1118481, li_16384, li_1073741824, ↓reduceIte, zn_m15, e]
  · have e := kPk_at h2 5 (s - 5) l (by omega) hl
    rw [show 5 + (s - 5) = s by omega] at e
    simp (disch := omega) only [li_0, li_1, li_2, li_3, li_4, li_5, li_6, li_7, li_8, li_9, li_10, li_11, li_12, li_13, li_14, li_15, li_16, li_17, li_18, li_19, li_20, li_21, li_22, li_23, li_24, li_25, li_26, li_27, li_28, li_29, li_30, li_31, li_32, li_33, li_34, li_35, li_36, li_37, li_38, li_39, li_40, li_41, li_42, li_43, li_44, li_45, li_46, li_47, li_48, li_49, li_50, li_51, li_52, li_53, li_54, li_55, li_56, li_57, li_58, li_59, li_60, li_61, li_62, li_63, li_64, li_65, li_66, li_67, li_68, li_69, li_70, li_71, li_72, li_73, li_74, li_75, li_76, li_77, li_78, li_79, li_80, li_81, li_82, li_83, li_84, li_85, li_86, li_87, li_88, li_89, li_90, li_91, li_92, li_93, li_94, li_95, li_96, li_97, li_98, li_99, li_100, li_101, li_102, li_103, li_104, li_105, li_106, li_107, li_108, li_109, li_110, li_111, li_112, li_113, li_114, li_115, li_116, li_117, li_118, li_119, li_120, li_121, li_122, li_123, li_124, li_125, li_126, li_127, li_128, li_160, li_219, li_220, li_248, li_249, li_250, li_251, li_255, li_999, li_1000, li_1023, li_1024, li_10240, li_999999, li_1048576, li_1048575, nI_add, nI_mul, zi_div, zi_eq, zi_le, zi_lt, zi_in, zi_c, zi_sub, zi_ofN, zi_m1e, zi_m1e', zi_m1lt, zi_m1le, zi_ltm1, zi_lem1, zi_m1m1, jif_T, jif_F, jif_t, jif_f, zb_1, zb_0, zb_01, zb_ft, zn_01a, zn_01b, zi_tst, zi_pow, cond_true, jcI_some, jcV_some, jcJ_some, Nat.reduceAdd, Nat.reduceMul, Nat.reduceSub, reduceCtorEq, Bool.true_eq_false, Bool.false_eq_true, zb_t, zb_f, Nat.add_zero, Nat.zero_add, Nat.mul_zero, Nat.zero_mul, or_true, true_or, or_false, false_or, and_true, true_and, and_false, false_and, not_true_eq_false, not_false_eq_true, zl_and, zl_or, zl_dif, zl_shl, zl_srl, zl_i, zl_w, zl_cmp, zi_b, zi_and, zi_or, zi_sru, jo_some, jo_none, ll_0, ll_1, ll_1048575, ll_1118481, li_16384, li_1073741824, ↓reduceIte, zn_m15, e]
theorem c_isEnd {a : Nat} {A : kA} (h : cR L g I J a A) {s : Nat} (hs : s < 32) : jcall (d + 1) 22 [.ref a, .int (nI s)] (jGs L g, I, J) = some (some (.int (bI (A.2.1 s))), (jGs L g, I, J)) := by
  obtain ⟨h1, h2, h3, h4, h5, h6⟩ := h
  have b := kEm_lt10 h2
  have e := kV_end h2 s
  have hm : kEm A.2.1 A.1 / 2 ^ s &&& 1 < 2 := by rw [Nat.and_one_is_mod]; omega
  have n1 : (jGs L g).1 a = 2 := h1
  rw [c_Lang_isEnd, e_Lang_isEnd_0, n1, h5]
  cases hx : A.2.1 s
  · rw [hx] at e
    simp (disch := omega) only [li_0, li_1, li_2, li_3, li_4, li_5, li_6, li_7, li_8, li_9, li_10, li_11, li_12, li_13, li_14, li_15, li_16, li_17, li_18, li_19, li_20, li_21, li_22, li_23, li_24, li_25, li_26, li_27, li_28, li_29, li_30, li_31, li_32, li_33, li_34, li_35, li_36, li_37, li_38, li_39, li_40, li_41, li_42, li_43, li_44, li_45, li_46, li_47, li_48, li_49, li_50, li_51, li_52, li_53, li_54, li_55, li_56, li_57, li_58, li_59, li_60, li_61, li_62, li_63, li_64, li_65, li_66, li_67, li_68, li_69, li_70, li_71, li_72, li_73, li_74, li_75, li_76, li_77, li_78, li_79, li_80, li_81, li_82, li_83, li_84, li_85, li_86, li_87, li_88, li_89, li_90, li_91, li_92, li_93, li_94, li_95, li_96, li_97, li_98, li_99, li_100, li_101, li_102, li_103, li_104, li_105, li_106, li_107, li_108, li_109, li_110, li_111, li_112, li_113, li_114, li_115, li_116, li_117, li_118, li_119, li_120, li_121, li_122, li_123, li_124, li_125, li_126, li_127, li_128, li_160, li_219, li_220, li_248, li_249, li_250, li_251, li_255, li_999, li_1000, li_1023, li_1024, li_10240, li_999999, li_1048576, li_1048575, nI_add, nI_mul, zi_div, zi_eq, zi_le, zi_lt, zi_in, zi_c, zi_sub, zi_ofN, zi_m1e, zi_m1e', zi_m1lt, zi_m1le, zi_ltm1, zi_lem1, zi_m1m1, jif_T, jif_F, jif_t, jif_f, zb_1, zb_0, zb_01, zb_ft, zn_01a, zn_01b, zi_tst, zi_pow, cond_true, jcI_some, jcV_some, jcJ_some, Nat.reduceAdd, Nat.reduceMul, Nat.reduceSub, reduceCtorEq, Bool.true_eq_false, Bool.false_eq_true, zb_t, zb_f, Nat.add_zero, Nat.zero_add, Nat.mul_zero, Nat.zero_mul, or_true, true_or, or_false, false_or, and_true, true_and, and_false, false_and, not_true_eq_false, not_false_eq_true, zl_and, zl_or, zl_dif, zl_shl, zl_srl, zl_i, zl_w, zl_cmp, zi_b, zi_and, zi_or, zi_sru, jo_some, jo_none, ll_0, ll_1, ll_1048575, ll_1118481, li_16384, li_1073741824, ↓reduceIte, zn_bit, e, e_Lang_isEnd_16]
  · rw [hx] at e
    simp (disch := omega) only [li_0, li_1, li_2, li_3, li_4, li_5, li_6, li_7, li_8, li_9, li_10, li_11, li_12, li_13, li_14, li_15, li_16, li_17, li_18, li_19, li_20, li_21, li_22, li_23, li_24, li_25, li_26, li_27, li_28, li_29, li_30, li_31, li_32, li_33, li_34, li_35, li_36, li_37, li_38, li_39, li_40, li_41, li_42, li_43, li_44, li_45, li_46, li_47, li_48, li_49, li_50, li_51, li_52, li_53, li_54, li_55, li_56, li_57, li_58, li_59, li_60, li_61, li_62, li_63, li_64, li_65, li_66, li_67, li_68, li_69, li_70, li_71, li_72, li_73, li_74, li_75, li_76, li_77, li_78, li_79, li_80, li_81, li_82, li_83, li_84, li_85, li_86, li_87, li_88, li_89, li_90, li_91, li_92, li_93, li_94, li_95, li_96, li_97, li_98, li_99, li_100, li_101, li_102, li_103, li_104, li_105, li_106, li_107, li_108, li_109, li_110, li_111, li_112, li_113, li_114, li_115, li_116, li_117, li_118, li_119, li_120, li_121, li_122, li_123, li_124, li_125, li_126, li_127, li_128, li_160, li_219, li_220, li_248, li_249, li_250, li_251, li_255, li_999, li_1000, li_1023, li_1024, li_10240, li_999999, li_1048576, li_1048575, nI_add, nI_mul, zi_div, zi_eq, zi_le, zi_lt, zi_in, zi_c, zi_sub, zi_ofN, zi_m1e, zi_m1e', zi_m1lt, zi_m1le, zi_ltm1, zi_lem1, zi_m1m1, jif_T, jif_F, jif_t, jif_f, zb_1, zb_0, zb_01, zb_ft, zn_01a, zn_01b, zi_tst, zi_pow, cond_true, jcI_some, jcV_some, jcJ_some, Nat.reduceAdd, Nat.reduceMul, Nat.reduceSub, reduceCtorEq, Bool.true_eq_false, Bool.false_eq_true, zb_t, zb_f, Nat.add_zero, Nat.zero_add, Nat.mul_zero, Nat.zero_mul, or_true, true_or, or_false, false_or, and_true, true_and, and_false, false_and, not_true_eq_false, not_false_eq_true, zl_and, zl_or, zl_dif, zl_shl, zl_srl, zl_i, zl_w, zl_cmp, zi_b, zi_and, zi_or, zi_sru, jo_some, jo_none, ll_0, ll_1, ll_1048575, ll_1118481, li_16384, li_1073741824, ↓reduceIte, zn_bit, e, e_Lang_isEnd_16]
theorem c_makeAll {a : Nat} (hk : gK L g a = 2) : ∃ I' J', (∀ b, b ≠ a → I' b = I b ∧ J' b = J b) ∧ cR L g I' J' a kAll ∧ jcall (d + 1) 17 [.ref a] (jGs L g, I, J) = some (none, (jGs L g, I', J')) := by
  refine ⟨ju (ju I a 2 1) a 3 1, ju (ju J a 0 0) a 1 0, fun b hb => ⟨by rw [ju_n hb, ju_n hb], by rw [ju_n hb, ju_n hb]⟩, ⟨hk, kAll_V, ?_, ?_, ?_, ?_⟩, ?_⟩
  · rw [zu_k (by omega), zu_at, kPk_all]; rfl
  · rw [zu_at, kPk_all]; rfl
  · rw [zu_k (by omega), zu_at]; decide
  · rw [zu_at]; decide
  · rw [c_Lang_makeAll, e_Lang_makeAll_0, if_pos hk, if_pos hk, if_pos hk, if_pos hk]
theorem c_makeNothing {a : Nat} (hk : gK L g a = 2) : ∃ I' J', (∀ b, b ≠ a → I' b = I b ∧ J' b = J b) ∧ cR L g I' J' a kNo ∧ jcall (d + 2) 18 [.ref a] (jGs L g, I, J) = some (none, (jGs L g, I', J')) := by
  obtain ⟨I1, J1, h1, h2, h3⟩ := c_makeAll d L g (I := I) (J := J) hk
  refine ⟨ju I1 a 2 0, J1, fun b hb => ⟨by rw [ju_n hb]; exact (h1 b hb).1, (h1 b hb).2⟩, ⟨hk, kNo_V, ?_, ?_, ?_, ?_⟩, ?_⟩
  · rw [kPk_no, h2.2.2.1, kPk_all]
  · rw [kPk_no, h2.2.2.2.1, kPk_all]
  · rw [zu_at]; decide
  · rw [zu_k (by omega)]; exact h2.2.2.2.2.2
  · rw [c_Lang_makeNothing, e_Lang_makeNothing_0, if_pos hk, h3, jcV_some, e_Lang_makeNothing_4, if_pos hk]
theorem c_makeEmptyText {a : Nat} (hk : gK L g a = 2) : ∃ I' J', (∀ b, b ≠ a → I' b = I b ∧ J' b = J b) ∧ cR L g I' J' a kEp ∧ jcall (d + 2) 19 [.ref a] (jGs L g, I, J) = some (none, (jGs L g, I', J')) := by
  obtain ⟨I1, J1, h1, h2, h3⟩ := c_makeAll d L g (I := I) (J := J) hk
  refine ⟨ju I1 a 3 2, ju J1 a 0 1118481, fun b hb => ⟨by rw [ju_n hb]; exact (h1 b hb).1, by rw [ju_n hb]; exact (h1 b hb).2⟩, ⟨hk, kEp_V, ?_, ?_, ?_, ?_⟩, ?_⟩
  · rw [zu_at, kPk_ep0]; rfl
  · rw [zu_k (by omega), kPk_ep5, h2.2.2.2.1, kPk_all]
  · rw [zu_k (by omega), h2.2.2.2.2.1]; decide
  · rw [zu_at]; rfl
  · rw [c_Lang_makeEmptyText, e_Lang_makeEmptyText_0, if_pos hk, h3, jcV_some, e_Lang_makeEmptyText_4, if_pos hk, if_pos hk]
theorem c_set {a b : Nat} {B : kA} (hk : gK L g a = 2) (h : cR L g I J b B) : ∃ I' J', (∀ x, x ≠ a → I' x = I x ∧ J' x = J x) ∧ cR L g I' J' a B ∧ jcall (d + 1) 20 [.ref a, .ref b] (jGs L g, I, J) = some (none, (jGs L g, I', J')) := by
  obtain ⟨h1, h2, h3, h4, h5, h6⟩ := h
  have e1 : (ju I a 2 (I b 2)) b 3 = I b 3 := by
    by_cases hab : b = a
    · subst hab; rw [zu_k (by omega)]
    · rw [zu_a hab]
  have e2 : (ju J a 0 (J b 0)) b 1 = J b 1 := by
    by_cases hab : b = a
    · subst hab; rw [zu_k (by omega)]
    · rw [zu_a hab]
  refine ⟨ju (ju I a 2 (I b 2)) a 3 (I b 3), ju (ju J a 0 (J b 0)) a 1 (J b 1), fun x hx => ⟨by rw [ju_n hx, ju_n hx], by rw [ju_n hx, ju_n hx]⟩, ⟨hk, h2, ?_, ?_, ?_, ?_⟩, ?_⟩
  · rw [zu_k (by omega), zu_at]; exact h3
  · rw [zu_at]; exact h4
  · rw [zu_k (by omega), zu_at]; exact h5
  · rw [zu_at]; exact h6
  · rw [c_Lang_set, e_Lang_set_0, e1, e2]
    simp only [hk, show (jGs L g).1 b = 2 from h1, show (jGs L g).1 a = 2 from hk, ↓reduceIte]
theorem c_isSame {a b : Nat} {A B : kA} (hA : cR L g I J a A) (hB : cR L g I J b B) : jcall (d + 1) 23 [.ref a, .ref b] (jGs L g, I, J) = some (some (.int (bI (jb (A = B)))), (jGs L g, I, J)) := by
  obtain ⟨h1, h2, h3, h4, h5, h6⟩ := hA
  obtain ⟨k1, k2, k3, k4, k5, k6⟩ := hB
  have b0 := kPk_lt h2 0
  have b5 := kPk_lt h2 5
  have b6 := kEm_lt10 h2
  have b7 := h2.2.1
  have c0 := kPk_lt k2 0
  have c5 := kPk_lt k2 5
  have c6 := kEm_lt10 k2
  have c7 := k2.2.1
  have n1 : (jGs L g).1 a = 2 := h1
  have n2 : (jGs L g).1 b = 2 := k1
  have hf : A.1 = B.1 → kEm A.2.1 A.1 = kEm B.2.1 B.1 → kPk A 0 = kPk B 0 → kPk A 5 = kPk B 5 → A = B := fun e1 e2 e3 e4 => kV_fields h2 k2 e3 e4 e2 e1
  have g1 : A = B → A.1 = B.1 := fun e => by rw [e]
  have g2 : A = B → kEm A.2.1 A.1 = kEm B.2.1 B.1 := fun e => by rw [e]
  have g3 : A = B → kPk A 0 = kPk B 0 := fun e => by rw [e]
  have g4 : A = B → kPk A 5 = kPk B 5 := fun e => by rw [e]
  generalize kEm A.2.1 A.1 = ea at *
  generalize kEm B.2.1 B.1 = eb at *
  rw [c_Lang_isSame, e_Lang_isSame_0]
  by_cases e1 : A.1 = B.1
  · by_cases e2 : ea = eb
    · by_cases e3 : kPk A 0 = kPk B 0
      · by_cases e4 : kPk A 5 = kPk B 5
        · have e5 := hf e1 e2 e3 e4
          rw [jb_t.mpr e5]
          simp (disch := omega) only [li_0, li_1, li_2, li_3, li_4, li_5, li_6, li_7, li_8, li_9, li_10, li_11, li_12, li_13, li_14, li_15, li_16, li_17, li_18, li_19, li_20, li_21, li_22, li_23, li_24, li_25, li_26, li_27, li_28, li_29, li_30, li_31, li_32, li_33, li_34, li_35, li_36, li_37, li_38, li_39, li_40, li_41, li_42, li_43, li_44, li_45, li_46, li_47, li_48, li_49, li_50, li_51, li_52, li_53, li_54, li_55, li_56, li_57, li_58, li_59, li_60, li_61, li_62, li_63, li_64, li_65, li_66, li_67, li_68, li_69, li_70, li_71, li_72, li_73, li_74, li_75, li_76, li_77, li_78, li_79, li_80, li_81, li_82, li_83, li_84, li_85, li_86, li_87, li_88, li_89, li_90, li_91, li_92, li_93, li_94, li_95, li_96, li_97, li_98, li_99, li_100, li_101, li_102, li_103, li_104, li_105, li_106, li_107, li_108, li_109, li_110, li_111, li_112, li_113, li_114, li_115, li_116, li_117, li_118, li_119, li_120, li_121, li_122, li_123, li_124, li_125, li_126, li_127, li_128, li_160, li_219, li_220, li_248, li_249, li_250, li_251, li_255, li_999, li_1000, li_1023, li_1024, li_10240, li_999999, li_1048576, li_1048575, nI_add, nI_mul, zi_div, zi_eq, zi_le, zi_lt, zi_in, zi_c, zi_sub, zi_ofN, zi_m1e, zi_m1e', zi_m1lt, zi_m1le, zi_ltm1, zi_lem1, zi_m1m1, jif_T, jif_F, jif_t, jif_f, zb_1, zb_0, zb_01, zb_ft, zn_01a, zn_01b, zi_tst, zi_pow, cond_true, jcI_some, jcV_some, jcJ_some, Nat.reduceAdd, Nat.reduceMul, Nat.reduceSub, reduceCtorEq, Bool.true_eq_false, Bool.false_eq_true, zb_t, zb_f, Nat.add_zero, Nat.zero_add, Nat.mul_zero, Nat.zero_mul, or_true, true_or, or_false, false_or, and_true, true_and, and_false, false_and, not_true_eq_false, not_false_eq_true, zl_and, zl_or, zl_dif, zl_shl, zl_srl, zl_i, zl_w, zl_cmp, zi_b, zi_and, zi_or, zi_sru, jo_some, jo_none, ll_0, ll_1, ll_1048575, ll_1118481, li_16384, li_1073741824, ↓reduceIte, n1, n2, h3, h4, h5, h6, k3, k4, k5, k6, e1, e2, e3, e4, e_Lang_isSame_51]
        · rw [jb_f.mpr (fun e => e4 (g4 e))]
          simp (disch := omega) only [li_0, li_1, li_2, li_3, li_4, li_5, li_6, li_7, li_8, li_9, li_10, li_11, li_12, li_13, li_14, li_15, li_16, li_17, li_18, li_19, li_20, li_21, li_22, li_23, li_24, li_25, li_26, li_27, li_28, li_29, li_30, li_31, li_32, li_33, li_34, li_35, li_36, li_37, li_38, li_39, li_40, li_41, li_42, li_43, li_44, li_45, li_46, li_47, li_48, li_49, li_50, li_51, li_52, li_53, li_54, li_55, li_56, li_57, li_58, li_59, li_60, li_61, li_62, li_63, li_64, li_65, li_66, li_67, li_68, li_69, li_70, li_71, li_72, li_73, li_74, li_75, li_76, li_77, li_78, li_79, li_80, li_81, li_82, li_83, li_84, li_85, li_86, li_87, li_88, li_89, li_90, li_91, li_92, li_93, li_94, li_95, li_96, li_97, li_98, li_99, li_100, li_101, li_102, li_103, li_104, li_105, li_106, li_107, li_108, li_109, li_110, li_111, li_112, li_113, li_114, li_115, li_116, li_117, li_118, li_119, li_120, li_121, li_122, li_123, li_124, li_125, li_126, li_127, li_128, li_160, li_219, li_220, li_248, li_249, li_250, li_251, li_255, li_999, li_1000, li_1023, li_1024, li_10240, li_999999, li_1048576, li_1048575, nI_add, nI_mul, zi_div, zi_eq, zi_le, zi_lt, zi_in, zi_c, zi_sub, zi_ofN, zi_m1e, zi_m1e', zi_m1lt, zi_m1le, zi_ltm1, zi_lem1, zi_m1m1, jif_T, jif_F, jif_t, jif_f, zb_1, zb_0, zb_01, zb_ft, zn_01a, zn_01b, zi_tst, zi_pow, cond_true, jcI_some, jcV_some, jcJ_some, Nat.reduceAdd, Nat.reduceMul, Nat.reduceSub, reduceCtorEq, Bool.true_eq_false, Bool.false_eq_true, zb_t, zb_f, Nat.add_zero, Nat.zero_add, Nat.mul_zero, Nat.zero_mul, or_true, true_or, or_false, false_or, and_true, true_and, and_false, false_and, not_true_eq_false, not_false_eq_true, zl_and, zl_or, zl_dif, zl_shl, zl_srl, zl_i, zl_w, zl_cmp, zi_b, zi_and, zi_or, zi_sru, jo_some, jo_none, ll_0, ll_1, ll_1048575, ll_1118481, li_16384, li_1073741824, ↓reduceIte, n1, n2, h3, h4, h5, h6, k3, k4, k5, k6, e1, e2, e3, e4, e_Lang_isSame_50, e_Lang_isSame_51]
      · rw [jb_f.mpr (fun e => e3 (g3 e))]
        simp (disch := omega) only [li_0, li_1, li_2, li_3, li_4, li_5, li_6, li_7, li_8, li_9, li_10, li_11, li_12, li_13, li_14, li_15, li_16, li_17, li_18, li_19, li_20, li_21, li_22, li_23, li_24, li_25, li_26, li_27, li_28, li_29, li_30, li_31, li_32, li_33, li_34, li_35, li_36, li_37, li_38, li_39, li_40, li_41, li_42, li_43, li_44, li_45, li_46, li_47, li_48, li_49, li_50, li_51, li_52, li_53, li_54, li_55, li_56, li_57, li_58, li_59, li_60, li_61, li_62, li_63, li_64, li_65, li_66, li_67, li_68, li_69, li_70, li_71, li_72, li_73, li_74, li_75, li_76, li_77, li_78, li_79, li_80, li_81, li_82, li_83, li_84, li_85, li_86, li_87, li_88, li_89, li_90, li_91, li_92, li_93, li_94, li_95, li_96, li_97, li_98, li_99, li_100, li_101, li_102, li_103, li_104, li_105, li_106, li_107, li_108, li_109, li_110, li_111, li_112, li_113, li_114, li_115, li_116, li_117, li_118, li_119, li_120, li_121, li_122, li_123, li_124, li_125, li_126, li_127, li_128, li_160, li_219, li_220, li_248, li_249, li_250, li_251, li_255, li_999, li_1000, li_1023, li_1024, li_10240, li_999999, li_1048576, li_1048575, nI_add, nI_mul, zi_div, zi_eq, zi_le, zi_lt, zi_in, zi_c, zi_sub, zi_ofN, zi_m1e, zi_m1e', zi_m1lt, zi_m1le, zi_ltm1, zi_lem1, zi_m1m1, jif_T, jif_F, jif_t, jif_f, zb_1, zb_0, zb_01, zb_ft, zn_01a, zn_01b, zi_tst, zi_pow, cond_true, jcI_some, jcV_some, jcJ_some, Nat.reduceAdd, Nat.reduceMul, Nat.reduceSub, reduceCtorEq, Bool.true_eq_false, Bool.false_eq_true, zb_t, zb_f, Nat.add_zero, Nat.zero_add, Nat.mul_zero, Nat.zero_mul, or_true, true_or, or_false, false_or, and_true, true_and, and_false, false_and, not_true_eq_false, not_false_eq_true, zl_and, zl_or, zl_dif, zl_shl, zl_srl, zl_i, zl_w, zl_cmp, zi_b, zi_and, zi_or, zi_sru, jo_some, jo_none, ll_0, ll_1, ll_1048575, ll_1118481, li_16384, li_1073741824, ↓reduceIte, n1, n2, h3, h4, h5, h6, k3, k4, k5, k6, e1, e2, e3, e_Lang_isSame_50, e_Lang_isSame_51]
    · rw [jb_f.mpr (fun e => e2 (g2 e))]
      simp (disch := omega) only [li_0, li_1, li_2, li_3, li_4, li_5, li_6, li_7, li_8, li_9, li_10, li_11, li_12, li_13, li_14, li_15, li_16, li_17, li_18, li_19, li_20, li_21, li_22, li_23, li_24, li_25, li_26, li_27, li_28, li_29, li_30, li_31, li_32, li_33, li_34, li_35, li_36, li_37, li_38, li_39, li_40, li_41, li_42, li_43, li_44, li_45, li_46, li_47, li_48, li_49, li_50, li_51, li_52, li_53, li_54, li_55, li_56, li_57, li_58, li_59, li_60, li_61, li_62, li_63, li_64, li_65, li_66, li_67, li_68, li_69, li_70, li_71, li_72, li_73, li_74, li_75, li_76, li_77, li_78, li_79, li_80, li_81, li_82, li_83, li_84, li_85, li_86, li_87, li_88, li_89, li_90, li_91, li_92, li_93, li_94, li_95, li_96, li_97, li_98, li_99, li_100, li_101, li_102, li_103, li_104, li_105, li_106, li_107, li_108, li_109, li_110, li_111, li_112, li_113, li_114, li_115, li_116, li_117, li_118, li_119, li_120, li_121, li_122, li_123, li_124, li_125, li_126, li_127, li_128, li_160, li_219, li_220, li_248, li_249, li_250, li_251, li_255, li_999, li_1000, li_1023, li_1024, li_10240, li_999999, li_1048576, li_1048575, nI_add, nI_mul, zi_div, zi_eq, zi_le, zi_lt, zi_in, zi_c, zi_sub, zi_ofN, zi_m1e, zi_m1e', zi_m1lt, zi_m1le, zi_ltm1, zi_lem1, zi_m1m1, jif_T, jif_F, jif_t, jif_f, zb_1, zb_0, zb_01, zb_ft, zn_01a, zn_01b, zi_tst, zi_pow, cond_true, jcI_some, jcV_some, jcJ_some, Nat.reduceAdd, Nat.reduceMul, Nat.reduceSub, reduceCtorEq, Bool.true_eq_false, Bool.false_eq_true, zb_t, zb_f, Nat.add_zero, Nat.zero_add, Nat.mul_zero, Nat.zero_mul, or_true, true_or, or_false, false_or, and_true, true_and, and_false, false_and, not_true_eq_false, not_false_eq_true, zl_and, zl_or, zl_dif, zl_shl, zl_srl, zl_i, zl_w, zl_cmp, zi_b, zi_and, zi_or, zi_sru, jo_some, jo_none, ll_0, ll_1, ll_1048575, ll_1118481, li_16384, li_1073741824, ↓reduceIte, n1, n2, h3, h4, h5, h6, k3, k4, k5, k6, e1, e2, e_Lang_isSame_50, e_Lang_isSame_51]
  · rw [jb_f.mpr (fun e => e1 (g1 e))]
    simp (disch := omega) only [li_0, li_1, li_2, li_3, li_4, li_5, li_6, li_7, li_8, li_9, li_10, li_11, li_12, li_13, li_14, li_15, li_16, li_17, li_18, li_19, li_20, li_21, li_22, li_23, li_24, li_25, li_26, li_27, li_28, li_29, li_30, li_31, li_32, li_33, li_34, li_35, li_36, li_37, li_38, li_39, li_40, li_41, li_42, li_43, li_44, li_45, li_46, li_47, li_48, li_49, li_50, li_51, li_52, li_53, li_54, li_55, li_56, li_57, li_58, li_59, li_60, li_61, li_62, li_63, li_64, li_65, li_66, li_67, li_68, li_69, li_70, li_71, li_72, li_73, li_74, li_75, li_76, li_77, li_78, li_79, li_80, li_81, li_82, li_83, li_84, li_85, li_86, li_87, li_88, li_89, li_90, li_91, li_92, li_93, li_94, li_95, li_96, li_97, li_98, li_99, li_100, li_101, li_102, li_103, li_104, li_105, li_106, li_107, li_108, li_109, li_110, li_111, li_112, li_113, li_114, li_115, li_116, li_117, li_118, li_119, li_120, li_121, li_122, li_123, li_124, li_125, li_126, li_127, li_128, li_160, li_219, li_220, li_248, li_249, li_250, li_251, li_255, li_999, li_1000, li_1023, li_1024, li_10240, li_999999, li_1048576, li_1048575, nI_add, nI_mul, zi_div, zi_eq, zi_le, zi_lt, zi_in, zi_c, zi_sub, zi_ofN, zi_m1e, zi_m1e', zi_m1lt, zi_m1le, zi_ltm1, zi_lem1, zi_m1m1, jif_T, jif_F, jif_t, jif_f, zb_1, zb_0, zb_01, zb_ft, zn_01a, zn_01b, zi_tst, zi_pow, cond_true, jcI_some, jcV_some, jcJ_some, Nat.reduceAdd, Nat.reduceMul, Nat.reduceSub, reduceCtorEq, Bool.true_eq_false, Bool.false_eq_true, zb_t, zb_f, Nat.add_zero, Nat.zero_add, Nat.mul_zero, Nat.zero_mul, or_true, true_or, or_false, false_or, and_true, true_and, and_false, false_and, not_true_eq_false, not_false_eq_true, zl_and, zl_or, zl_dif, zl_shl, zl_srl, zl_i, zl_w, zl_cmp, zi_b, zi_and, zi_or, zi_sru, jo_some, jo_none, ll_0, ll_1, ll_1048575, ll_1118481, li_16384, li_1073741824, ↓reduceIte, n1, n2, h3, h4, h5, h6, k3, k4, k5, k6, e1, e_Lang_isSame_50, e_Lang_isSame_51]
theorem kV_all {A : kA} (h : kV A) (h1 : A.1 = 1) (h2 : kEm A.2.1 A.1 = 1) : A = kAll := by
  have he : A.2.1 0 = true := by rw [← kV_end h 0, h2]; rfl
  refine kA_ext h.2.2 kAll_V.2.2 h1 (fun q hq => ?_) (fun q hq l hl => ?_)
  · have : q = 0 := by omega
    subst this
    rw [he]; rfl
  · have := h.1.1.2 q hq l hl
    show A.2.2 q l = 0
    omega
theorem kV_no {A : kA} (h : kV A) (h2 : kEm A.2.1 A.1 = 0) : A = kNo := by
  have hz : ∀ r, A.2.1 r = false := fun r => by rw [← kV_end h r, h2]; exact Nat.zero_testBit r
  refine kV_eq h kNo_V (fun w _ => ?_)
  have hA : ∀ (w : List Nat) (q : Nat), kL A q w = false := by
    intro w
    induction w with
    | nil => intro q; exact hz q
    | cons l w ih => intro q; exact ih _
  have hN : ∀ (w : List Nat) (q : Nat), kL kNo q w = false := by
    intro w
    induction w with
    | nil => intro q; rfl
    | cons l w ih => intro q; exact ih _
  rw [hA, hN]
theorem c_isAll {a : Nat} {A : kA} (h : cR L g I J a A) : jcall (d + 1) 24 [.ref a] (jGs L g, I, J) = some (some (.int (bI (jb (A = kAll)))), (jGs L g, I, J)) := by
  obtain ⟨h1, h2, h3, h4, h5, h6⟩ := h
  have b6 := kEm_lt10 h2
  have b7 := h2.2.1
  have n1 : (jGs L g).1 a = 2 := h1
  have hf : A.1 = 1 → kEm A.2.1 A.1 = 1 → A = kAll := kV_all h2
  have g2 : A = kAll → kEm A.2.1 A.1 = 1 := fun e => by rw [e]; decide
  generalize kEm A.2.1 A.1 = ea at *
  rw [c_Lang_isAll, e_Lang_isAll_0]
  by_cases e1 : A.1 = 1
  · by_cases e2 : ea = 1
    · rw [jb_t.mpr (hf e1 e2)]
      simp (disch := omega) only [li_0, li_1, li_2, li_3, li_4, li_5, li_6, li_7, li_8, li_9, li_10, li_11, li_12, li_13, li_14, li_15, li_16, li_17, li_18, li_19, li_20, li_21, li_22, li_23, li_24, li_25, li_26, li_27, li_28, li_29, li_30, li_31, li_32, li_33, li_34, li_35, li_36, li_37, li_38, li_39, li_40, li_41, li_42, li_43, li_44, li_45, li_46, li_47, li_48, li_49, li_50, li_51, li_52, li_53, li_54, li_55, li_56, li_57, li_58, li_59, li_60, li_61, li_62, li_63, li_64, li_65, li_66, li_67, li_68, li_69, li_70, li_71, li_72, li_73, li_74, li_75, li_76, li_77, li_78, li_79, li_80, li_81, li_82, li_83, li_84, li_85, li_86, li_87, li_88, li_89, li_90, li_91, li_92, li_93, li_94, li_95, li_96, li_97, li_98, li_99, li_100, li_101, li_102, li_103, li_104, li_105, li_106, li_107, li_108, li_109, li_110, li_111, li_112, li_113, li_114, li_115, li_116, li_117, li_118, li_119, li_120, li_121, li_122, li_123, li_124, li_125, li_126, li_127, li_128, li_160, li_219, li_220, li_248, li_249, li_250, li_251, li_255, li_999, li_1000, li_1023, li_1024, li_10240, li_999999, li_1048576, li_1048575, nI_add, nI_mul, zi_div, zi_eq, zi_le, zi_lt, zi_in, zi_c, zi_sub, zi_ofN, zi_m1e, zi_m1e', zi_m1lt, zi_m1le, zi_ltm1, zi_lem1, zi_m1m1, jif_T, jif_F, jif_t, jif_f, zb_1, zb_0, zb_01, zb_ft, zn_01a, zn_01b, zi_tst, zi_pow, cond_true, jcI_some, jcV_some, jcJ_some, Nat.reduceAdd, Nat.reduceMul, Nat.reduceSub, reduceCtorEq, Bool.true_eq_false, Bool.false_eq_true, zb_t, zb_f, Nat.add_zero, Nat.zero_add, Nat.mul_zero, Nat.zero_mul, or_true, true_or, or_false, false_or, and_true, true_and, and_false, false_and, not_true_eq_false, not_false_eq_true, zl_and, zl_or, zl_dif, zl_shl, zl_srl, zl_i, zl_w, zl_cmp, zi_b, zi_and, zi_or, zi_sru, jo_some, jo_none, ll_0, ll_1, ll_1048575, ll_1118481, li_16384, li_1073741824, ↓reduceIte, n1, h5, h6, e1, e2, e_Lang_isAll_21]
    · rw [jb_f.mpr (fun e => e2 (g2 e))]
      simp (disch := omega) only [li_0, li_1, li_2, li_3, li_4, li_5, li_6, li_7, li_8, li_9, li_10, li_11, li_12, li_13, li_14, li_15, li_16, li_17, li_18, li_19, li_20, li_21, li_22, li_23, li_24, li_25, li_26, li_27, li_28, li_29, li_30, li_31, li_32, li_33, li_34, li_35, li_36, li_37, li_38, li_39, li_40, li_41, li_42, li_43, li_44, li_45, li_46, li_47, li_48, li_49, li_50, li_51, li_52, li_53, li_54, li_55, li_56, li_57, li_58, li_59, li_60, li_61, li_62, li_63, li_64, li_65, li_66, li_67, li_68, li_69, li_70, li_71, li_72, li_73, li_74, li_75, li_76, li_77, li_78, li_79, li_80, li_81, li_82, li_83, li_84, li_85, li_86, li_87, li_88, li_89, li_90, li_91, li_92, li_93, li_94, li_95, li_96, li_97, li_98, li_99, li_100, li_101, li_102, li_103, li_104, li_105, li_106, li_107, li_108, li_109, li_110, li_111, li_112, li_113, li_114, li_115, li_116, li_117, li_118, li_119, li_120, li_121, li_122, li_123, li_124, li_125, li_126, li_127, li_128, li_160, li_219, li_220, li_248, li_249, li_250, li_251, li_255, li_999, li_1000, li_1023, li_1024, li_10240, li_999999, li_1048576, li_1048575, nI_add, nI_mul, zi_div, zi_eq, zi_le, zi_lt, zi_in, zi_c, zi_sub, zi_ofN, zi_m1e, zi_m1e', zi_m1lt, zi_m1le, zi_ltm1, zi_lem1, zi_m1m1, jif_T, jif_F, jif_t, jif_f, zb_1, zb_0, zb_01, zb_ft, zn_01a, zn_01b, zi_tst, zi_pow, cond_true, jcI_some, jcV_some, jcJ_some, Nat.reduceAdd, Nat.reduceMul, Nat.reduceSub, reduceCtorEq, Bool.true_eq_false, Bool.false_eq_true, zb_t, zb_f, Nat.add_zero, Nat.zero_add, Nat.mul_zero, Nat.zero_mul, or_true, true_or, or_false, false_or, and_true, true_and, and_false, false_and, not_true_eq_false, not_false_eq_true, zl_and, zl_or, zl_dif, zl_shl, zl_srl, zl_i, zl_w, zl_cmp, zi_b, zi_and, zi_or, zi_sru, jo_some, jo_none, ll_0, ll_1, ll_1048575, ll_1118481, li_16384, li_1073741824, ↓reduceIte, n1, h5, h6, e1, e2, e_Lang_isAll_20, e_Lang_isAll_21]
  · rw [jb_f.mpr (fun e => e1 (by rw [e]; rfl))]
    simp (disch := omega) only [li_0, li_1, li_2, li_3, li_4, li_5, li_6, li_7, li_8, li_9, li_10, li_11, li_12, li_13, li_14, li_15, li_16, li_17, li_18, li_19, li_20, li_21, li_22, li_23, li_24, li_25, li_26, li_27, li_28, li_29, li_30, li_31, li_32, li_33, li_34, li_35, li_36, li_37, li_38, li_39, li_40, li_41, li_42, li_43, li_44, li_45, li_46, li_47, li_48, li_49, li_50, li_51, li_52, li_53, li_54, li_55, li_56, li_57, li_58, li_59, li_60, li_61, li_62, li_63, li_64, li_65, li_66, li_67, li_68, li_69, li_70, li_71, li_72, li_73, li_74, li_75, li_76, li_77, li_78, li_79, li_80, li_81, li_82, li_83, li_84, li_85, li_86, li_87, li_88, li_89, li_90, li_91, li_92, li_93, li_94, li_95, li_96, li_97, li_98, li_99, li_100, li_101, li_102, li_103, li_104, li_105, li_106, li_107, li_108, li_109, li_110, li_111, li_112, li_113, li_114, li_115, li_116, li_117, li_118, li_119, li_120, li_121, li_122, li_123, li_124, li_125, li_126, li_127, li_128, li_160, li_219, li_220, li_248, li_249, li_250, li_251, li_255, li_999, li_1000, li_1023, li_1024, li_10240, li_999999, li_1048576, li_1048575, nI_add, nI_mul, zi_div, zi_eq, zi_le, zi_lt, zi_in, zi_c, zi_sub, zi_ofN, zi_m1e, zi_m1e', zi_m1lt, zi_m1le, zi_ltm1, zi_lem1, zi_m1m1, jif_T, jif_F, jif_t, jif_f, zb_1, zb_0, zb_01, zb_ft, zn_01a, zn_01b, zi_tst, zi_pow, cond_true, jcI_some, jcV_some, jcJ_some, Nat.reduceAdd, Nat.reduceMul, Nat.reduceSub, reduceCtorEq, Bool.true_eq_false, Bool.false_eq_true, zb_t, zb_f, Nat.add_zero, Nat.zero_add, Nat.mul_zero, Nat.zero_mul, or_true, true_or, or_false, false_or, and_true, true_and, and_false, false_and, not_true_eq_false, not_false_eq_true, zl_and, zl_or, zl_dif, zl_shl, zl_srl, zl_i, zl_w, zl_cmp, zi_b, zi_and, zi_or, zi_sru, jo_some, jo_none, ll_0, ll_1, ll_1048575, ll_1118481, li_16384, li_1073741824, ↓reduceIte, n1, h5, h6, e1, e_Lang_isAll_20, e_Lang_isAll_21]
theorem c_isNothing {a : Nat} {A : kA} (h : cR L g I J a A) : jcall (d + 1) 25 [.ref a] (jGs L g, I, J) = some (some (.int (bI (jb (A = kNo)))), (jGs L g, I, J)) := by
  obtain ⟨h1, h2, h3, h4, h5, h6⟩ := h
  have b6 := kEm_lt10 h2
  have n1 : (jGs L g).1 a = 2 := h1
  rw [c_Lang_isNothing, e_Lang_isNothing_0]
  by_cases e2 : kEm A.2.1 A.1 = 0
  · rw [jb_t.mpr (kV_no h2 e2)]
    simp (disch := omega) only [li_0, li_1, li_2, li_3, li_4, li_5, li_6, li_7, li_8, li_9, li_10, li_11, li_12, li_13, li_14, li_15, li_16, li_17, li_18, li_19, li_20, li_21, li_22, li_23, li_24, li_25, li_26, li_27, li_28, li_29, li_30, li_31, li_32, li_33, li_34, li_35, li_36, li_37, li_38, li_39, li_40, li_41, li_42, li_43, li_44, li_45, li_46, li_47, li_48, li_49, li_50, li_51, li_52, li_53, li_54, li_55, li_56, li_57, li_58, li_59, li_60, li_61, li_62, li_63, li_64, li_65, li_66, li_67, li_68, li_69, li_70, li_71, li_72, li_73, li_74, li_75, li_76, li_77, li_78, li_79, li_80, li_81, li_82, li_83, li_84, li_85, li_86, li_87, li_88, li_89, li_90, li_91, li_92, li_93, li_94, li_95, li_96, li_97, li_98, li_99, li_100, li_101, li_102, li_103, li_104, li_105, li_106, li_107, li_108, li_109, li_110, li_111, li_112, li_113, li_114, li_115, li_116, li_117, li_118, li_119, li_120, li_121, li_122, li_123, li_124, li_125, li_126, li_127, li_128, li_160, li_219, li_220, li_248, li_249, li_250, li_251, li_255, li_999, li_1000, li_1023, li_1024, li_10240, li_999999, li_1048576, li_1048575, nI_add, nI_mul, zi_div, zi_eq, zi_le, zi_lt, zi_in, zi_c, zi_sub, zi_ofN, zi_m1e, zi_m1e', zi_m1lt, zi_m1le, zi_ltm1, zi_lem1, zi_m1m1, jif_T, jif_F, jif_t, jif_f, zb_1, zb_0, zb_01, zb_ft, zn_01a, zn_01b, zi_tst, zi_pow, cond_true, jcI_some, jcV_some, jcJ_some, Nat.reduceAdd, Nat.reduceMul, Nat.reduceSub, reduceCtorEq, Bool.true_eq_false, Bool.false_eq_true, zb_t, zb_f, Nat.add_zero, Nat.zero_add, Nat.mul_zero, Nat.zero_mul, or_true, true_or, or_false, false_or, and_true, true_and, and_false, false_and, not_true_eq_false, not_false_eq_true, zl_and, zl_or, zl_dif, zl_shl, zl_srl, zl_i, zl_w, zl_cmp, zi_b, zi_and, zi_or, zi_sru, jo_some, jo_none, ll_0, ll_1, ll_1048575, ll_1118481, li_16384, li_1073741824, ↓reduceIte, n1, h5, e2, e_Lang_isNothing_12]
  · rw [jb_f.mpr (fun e => e2 (by rw [e]; decide))]
    simp (disch := omega) only [li_0, li_1, li_2, li_3, li_4, li_5, li_6, li_7, li_8, li_9, li_10, li_11, li_12, li_13, li_14, li_15, li_16, li_17, li_18, li_19, li_20, li_21, li_22, li_23, li_24, li_25, li_26, li_27, li_28, li_29, li_30, li_31, li_32, li_33, li_34, li_35, li_36, li_37, li_38, li_39, li_40, li_41, li_42, li_43, li_44, li_45, li_46, li_47, li_48, li_49, li_50, li_51, li_52, li_53, li_54, li_55, li_56, li_57, li_58, li_59, li_60, li_61, li_62, li_63, li_64, li_65, li_66, li_67, li_68, li_69, li_70, li_71, li_72, li_73, li_74, li_75, li_76, li_77, li_78, li_79, li_80, li_81, li_82, li_83, li_84, li_85, li_86, li_87, li_88, li_89, li_90, li_91, li_92, li_93, li_94, li_95, li_96, li_97, li_98, li_99, li_100, li_101, li_102, li_103, li_104, li_105, li_106, li_107, li_108, li_109, li_110, li_111, li_112, li_113, li_114, li_115, li_116, li_117, li_118, li_119, li_120, li_121, li_122, li_123, li_124, li_125, li_126, li_127, li_128, li_160, li_219, li_220, li_248, li_249, li_250, li_251, li_255, li_999, li_1000, li_1023, li_1024, li_10240, li_999999, li_1048576, li_1048575, nI_add, nI_mul, zi_div, zi_eq, zi_le, zi_lt, zi_in, zi_c, zi_sub, zi_ofN, zi_m1e, zi_m1e', zi_m1lt, zi_m1le, zi_ltm1, zi_lem1, zi_m1m1, jif_T, jif_F, jif_t, jif_f, zb_1, zb_0, zb_01, zb_ft, zn_01a, zn_01b, zi_tst, zi_pow, cond_true, jcI_some, jcV_some, jcJ_some, Nat.reduceAdd, Nat.reduceMul, Nat.reduceSub, reduceCtorEq, Bool.true_eq_false, Bool.false_eq_true, zb_t, zb_f, Nat.add_zero, Nat.zero_add, Nat.mul_zero, Nat.zero_mul, or_true, true_or, or_false, false_or, and_true, true_and, and_false, false_and, not_true_eq_false, not_false_eq_true, zl_and, zl_or, zl_dif, zl_shl, zl_srl, zl_i, zl_w, zl_cmp, zi_b, zi_and, zi_or, zi_sru, jo_some, jo_none, ll_0, ll_1, ll_1048575, ll_1118481, li_16384, li_1073741824, ↓reduceIte, n1, h5, e2, e_Lang_isNothing_12]
theorem c_isEmptyText {a : Nat} {A : kA} (h : cR L g I J a A) : jcall (d + 1) 26 [.ref a] (jGs L g, I, J) = some (some (.int (bI (jb (A = kEp)))), (jGs L g, I, J)) := by
  obtain ⟨h1, h2, h3, h4, h5, h6⟩ := h
  have b0 := kPk_lt h2 0
  have b6 := kEm_lt10 h2
  have b7 := h2.2.1
  have n1 : (jGs L g).1 a = 2 := h1
  have hf : A.1 = 2 → kEm A.2.1 A.1 = 1 → kPk A 0 = 1118481 → A = kEp := fun e1 e2 e3 => by
    have e4 : kPk A 5 = 0 := np_z 15 (fun j _ => h2.2.2.2 _ _ (by omega))
    exact kV_fields h2 kEp_V (by rw [e3, kPk_ep0]) (by rw [e4, kPk_ep5]) (by rw [e2]; decide) e1
  have g2 : A = kEp → kEm A.2.1 A.1 = 1 := fun e => by rw [e]; decide
  generalize kEm A.2.1 A.1 = ea at *
  rw [c_Lang_isEmptyText, e_Lang_isEmptyText_0]
  by_cases e1 : A.1 = 2
  · by_cases e2 : ea = 1
    · by_cases e3 : kPk A 0 = 1118481
      · rw [jb_t.mpr (hf e1 e2 e3)]
        simp (disch := omega) only [li_0, li_1, li_2, li_3, li_4, li_5, li_6, li_7, li_8, li_9, li_10, li_11, li_12, li_13, li_14, li_15, li_16, li_17, li_18, li_19, li_20, li_21, li_22, li_23, li_24, li_25, li_26, li_27, li_28, li_29, li_30, li_31, li_32, li_33, li_34, li_35, li_36, li_37, li_38, li_39, li_40, li_41, li_42, li_43, li_44, li_45, li_46, li_47, li_48, li_49, li_50, li_51, li_52, li_53, li_54, li_55, li_56, li_57, li_58, li_59, li_60, li_61, li_62, li_63, li_64, li_65, li_66, li_67, li_68, li_69, li_70, li_71, li_72, li_73, li_74, li_75, li_76, li_77, li_78, li_79, li_80, li_81, li_82, li_83, li_84, li_85, li_86, li_87, li_88, li_89, li_90, li_91, li_92, li_93, li_94, li_95, li_96, li_97, li_98, li_99, li_100, li_101, li_102, li_103, li_104, li_105, li_106, li_107, li_108, li_109, li_110, li_111, li_112, li_113, li_114, li_115, li_116, li_117, li_118, li_119, li_120, li_121, li_122, li_123, li_124, li_125, li_126, li_127, li_128, li_160, li_219, li_220, li_248, li_249, li_250, li_251, li_255, li_999, li_1000, li_1023, li_1024, li_10240, li_999999, li_1048576, li_1048575, nI_add, nI_mul, zi_div, zi_eq, zi_le, zi_lt, zi_in, zi_c, zi_sub, zi_ofN, zi_m1e, zi_m1e', zi_m1lt, zi_m1le, zi_ltm1, zi_lem1, zi_m1m1, jif_T, jif_F, jif_t, jif_f, zb_1, zb_0, zb_01, zb_ft, zn_01a, zn_01b, zi_tst, zi_pow, cond_true, jcI_some, jcV_some, jcJ_some, Nat.reduceAdd, Nat.reduceMul, Nat.reduceSub, reduceCtorEq, Bool.true_eq_false, Bool.false_eq_true, zb_t, zb_f, Nat.add_zero, Nat.zero_add, Nat.mul_zero, Nat.zero_mul, or_true, true_or, or_false, false_or, and_true, true_and, and_false, false_and, not_true_eq_false, not_false_eq_true, zl_and, zl_or, zl_dif, zl_shl, zl_srl, zl_i, zl_w, zl_cmp, zi_b, zi_and, zi_or, zi_sru, jo_some, jo_none, ll_0, ll_1, ll_1048575, ll_1118481, li_16384, li_1073741824, ↓reduceIte, n1, h3, h5, h6, e1, e2, e3, e_Lang_isEmptyText_32]
      · rw [jb_f.mpr (fun e => e3 (by rw [e]; exact kPk_ep0))]
        simp (disch := omega) only [li_0, li_1, li_2, li_3, li_4, li_5, li_6, li_7, li_8, li_9, li_10, li_11, li_12, li_13, li_14, li_15, li_16, li_17, li_18, li_19, li_20, li_21, li_22, li_23, li_24, li_25, li_26, li_27, li_28, li_29, li_30, li_31, li_32, li_33, li_34, li_35, li_36, li_37, li_38, li_39, li_40, li_41, li_42, li_43, li_44, li_45, li_46, li_47, li_48, li_49, li_50, li_51, li_52, li_53, li_54, li_55, li_56, li_57, li_58, li_59, li_60, li_61, li_62, li_63, li_64, li_65, li_66, li_67, li_68, li_69, li_70, li_71, li_72, li_73, li_74, li_75, li_76, li_77, li_78, li_79, li_80, li_81, li_82, li_83, li_84, li_85, li_86, li_87, li_88, li_89, li_90, li_91, li_92, li_93, li_94, li_95, li_96, li_97, li_98, li_99, li_100, li_101, li_102, li_103, li_104, li_105, li_106, li_107, li_108, li_109, li_110, li_111, li_112, li_113, li_114, li_115, li_116, li_117, li_118, li_119, li_120, li_121, li_122, li_123, li_124, li_125, li_126, li_127, li_128, li_160, li_219, li_220, li_248, li_249, li_250, li_251, li_255, li_999, li_1000, li_1023, li_1024, li_10240, li_999999, li_1048576, li_1048575, nI_add, nI_mul, zi_div, zi_eq, zi_le, zi_lt, zi_in, zi_c, zi_sub, zi_ofN, zi_m1e, zi_m1e', zi_m1lt, zi_m1le, zi_ltm1, zi_lem1, zi_m1m1, jif_T, jif_F, jif_t, jif_f, zb_1, zb_0, zb_01, zb_ft, zn_01a, zn_01b, zi_tst, zi_pow, cond_true, jcI_some, jcV_some, jcJ_some, Nat.reduceAdd, Nat.reduceMul, Nat.reduceSub, reduceCtorEq, Bool.true_eq_false, Bool.false_eq_true, zb_t, zb_f, Nat.add_zero, Nat.zero_add, Nat.mul_zero, Nat.zero_mul, or_true, true_or, or_false, false_or, and_true, true_and, and_false, false_and, not_true_eq_false, not_false_eq_true, zl_and, zl_or, zl_dif, zl_shl, zl_srl, zl_i, zl_w, zl_cmp, zi_b, zi_and, zi_or, zi_sru, jo_some, jo_none, ll_0, ll_1, ll_1048575, ll_1118481, li_16384, li_1073741824, ↓reduceIte, n1, h3, h5, h6, e1, e2, e3, e_Lang_isEmptyText_31, e_Lang_isEmptyText_32]
    · rw [jb_f.mpr (fun e => e2 (g2 e))]
      simp (disch := omega) only [li_0, li_1, li_2, li_3, li_4, li_5, li_6, li_7, li_8, li_9, li_10, li_11, li_12, li_13, li_14, li_15, li_16, li_17, li_18, li_19, li_20, li_21, li_22, li_23, li_24, li_25, li_26, li_27, li_28, li_29, li_30, li_31, li_32, li_33, li_34, li_35, li_36, li_37, li_38, li_39, li_40, li_41, li_42, li_43, li_44, li_45, li_46, li_47, li_48, li_49, li_50, li_51, li_52, li_53, li_54, li_55, li_56, li_57, li_58, li_59, li_60, li_61, li_62, li_63, li_64, li_65, li_66, li_67, li_68, li_69, li_70, li_71, li_72, li_73, li_74, li_75, li_76, li_77, li_78, li_79, li_80, li_81, li_82, li_83, li_84, li_85, li_86, li_87, li_88, li_89, li_90, li_91, li_92, li_93, li_94, li_95, li_96, li_97, li_98, li_99, li_100, li_101, li_102, li_103, li_104, li_105, li_106, li_107, li_108, li_109, li_110, li_111, li_112, li_113, li_114, li_115, li_116, li_117, li_118, li_119, li_120, li_121, li_122, li_123, li_124, li_125, li_126, li_127, li_128, li_160, li_219, li_220, li_248, li_249, li_250, li_251, li_255, li_999, li_1000, li_1023, li_1024, li_10240, li_999999, li_1048576, li_1048575, nI_add, nI_mul, zi_div, zi_eq, zi_le, zi_lt, zi_in, zi_c, zi_sub, zi_ofN, zi_m1e, zi_m1e', zi_m1lt, zi_m1le, zi_ltm1, zi_lem1, zi_m1m1, jif_T, jif_F, jif_t, jif_f, zb_1, zb_0, zb_01, zb_ft, zn_01a, zn_01b, zi_tst, zi_pow, cond_true, jcI_some, jcV_some, jcJ_some, Nat.reduceAdd, Nat.reduceMul, Nat.reduceSub, reduceCtorEq, Bool.true_eq_false, Bool.false_eq_true, zb_t, zb_f, Nat.add_zero, Nat.zero_add, Nat.mul_zero, Nat.zero_mul, or_true, true_or, or_false, false_or, and_true, true_and, and_false, false_and, not_true_eq_false, not_false_eq_true, zl_and, zl_or, zl_dif, zl_shl, zl_srl, zl_i, zl_w, zl_cmp, zi_b, zi_and, zi_or, zi_sru, jo_some, jo_none, ll_0, ll_1, ll_1048575, ll_1118481, li_16384, li_1073741824, ↓reduceIte, n1, h5, h6, e1, e2, e_Lang_isEmptyText_31, e_Lang_isEmptyText_32]
  · rw [jb_f.mpr (fun e => e1 (by rw [e]; rfl))]
    simp (disch := omega) only [li_0, li_1, li_2, li_3, li_4, li_5, li_6, li_7, li_8, li_9, li_10, li_11, li_12, li_13, li_14, li_15, li_16, li_17, li_18, li_19, li_20, li_21, li_22, li_23, li_24, li_25, li_26, li_27, li_28, li_29, li_30, li_31, li_32, li_33, li_34, li_35, li_36, li_37, li_38, li_39, li_40, li_41, li_42, li_43, li_44, li_45, li_46, li_47, li_48, li_49, li_50, li_51, li_52, li_53, li_54, li_55, li_56, li_57, li_58, li_59, li_60, li_61, li_62, li_63, li_64, li_65, li_66, li_67, li_68, li_69, li_70, li_71, li_72, li_73, li_74, li_75, li_76, li_77, li_78, li_79, li_80, li_81, li_82, li_83, li_84, li_85, li_86, li_87, li_88, li_89, li_90, li_91, li_92, li_93, li_94, li_95, li_96, li_97, li_98, li_99, li_100, li_101, li_102, li_103, li_104, li_105, li_106, li_107, li_108, li_109, li_110, li_111, li_112, li_113, li_114, li_115, li_116, li_117, li_118, li_119, li_120, li_121, li_122, li_123, li_124, li_125, li_126, li_127, li_128, li_160, li_219, li_220, li_248, li_249, li_250, li_251, li_255, li_999, li_1000, li_1023, li_1024, li_10240, li_999999, li_1048576, li_1048575, nI_add, nI_mul, zi_div, zi_eq, zi_le, zi_lt, zi_in, zi_c, zi_sub, zi_ofN, zi_m1e, zi_m1e', zi_m1lt, zi_m1le, zi_ltm1, zi_lem1, zi_m1m1, jif_T, jif_F, jif_t, jif_f, zb_1, zb_0, zb_01, zb_ft, zn_01a, zn_01b, zi_tst, zi_pow, cond_true, jcI_some, jcV_some, jcJ_some, Nat.reduceAdd, Nat.reduceMul, Nat.reduceSub, reduceCtorEq, Bool.true_eq_false, Bool.false_eq_true, zb_t, zb_f, Nat.add_zero, Nat.zero_add, Nat.mul_zero, Nat.zero_mul, or_true, true_or, or_false, false_or, and_true, true_and, and_false, false_and, not_true_eq_false, not_false_eq_true, zl_and, zl_or, zl_dif, zl_shl, zl_srl, zl_i, zl_w, zl_cmp, zi_b, zi_and, zi_or, zi_sru, jo_some, jo_none, ll_0, ll_1, ll_1048575, ll_1118481, li_16384, li_1073741824, ↓reduceIte, n1, h6, e1, e_Lang_isEmptyText_31, e_Lang_isEmptyText_32]
end CC

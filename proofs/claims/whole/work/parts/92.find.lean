/-! THE CLASS: the k-th text -/
set_option maxRecDepth 100000
/-! texts of a length; a long one can be made shorter -/
theorem cnt_pos {A : kA} : ∀ n q, 0 < cnt A n q ↔ ∃ w, kW w ∧ w.length = n ∧ kL A q w = true
  | 0, q => by
    show 0 < (if A.2.1 q = true then 1 else 0) ↔ _
    constructor
    · intro h
      by_cases he : A.2.1 q = true
      · exact ⟨[], kW_nil, rfl, he⟩
      · rw [if_neg he] at h; omega
    · rintro ⟨w, -, h2, h3⟩
      have : w = [] := List.length_eq_zero_iff.mp h2
      subst this
      have h3' : A.2.1 q = true := h3
      rw [if_pos h3']; omega
  | n + 1, q => by
    show 0 < cnt A n (A.2.2 q 0) + cnt A n (A.2.2 q 1) + cnt A n (A.2.2 q 2) ↔ _
    constructor
    · intro h
      have : 0 < cnt A n (A.2.2 q 0) ∨ 0 < cnt A n (A.2.2 q 1) ∨ 0 < cnt A n (A.2.2 q 2) := by omega
      rcases this with h | h | h
      · obtain ⟨w, w1, w2, w3⟩ := (cnt_pos n _).mp h
        exact ⟨0 :: w, kW_cons (by omega) w1, by rw [List.length_cons, w2], w3⟩
      · obtain ⟨w, w1, w2, w3⟩ := (cnt_pos n _).mp h
        exact ⟨1 :: w, kW_cons (by omega) w1, by rw [List.length_cons, w2], w3⟩
      · obtain ⟨w, w1, w2, w3⟩ := (cnt_pos n _).mp h
        exact ⟨2 :: w, kW_cons (by omega) w1, by rw [List.length_cons, w2], w3⟩
    · rintro ⟨w, w1, w2, w3⟩
      cases w with
      | nil => simp at w2
      | cons l w =>
        have hl : l < 3 := w1 l List.mem_cons_self
        have hp : 0 < cnt A n (A.2.2 q l) := (cnt_pos n _).mpr ⟨w, fun x hx => w1 x (List.mem_cons_of_mem _ hx), by simpa using w2, w3⟩
        have : l = 0 ∨ l = 1 ∨ l = 2 := by omega
        rcases this with e | e | e <;> subst e <;> omega
theorem kD_app (A : kA) : ∀ (v w : List Nat) (q : Nat), kD A q (v ++ w) = kD A (kD A q v) w
  | [], _, _ => rfl
  | l :: v, w, q => kD_app A v w (A.2.2 q l)
theorem pump {A : kA} (hA : kV A) {n q : Nat} (hq : q < A.1) (h : 0 < cnt A n q) (hn : 10 ≤ n) : ∃ m, n ≤ m + 10 ∧ m < n ∧ 0 < cnt A m q := by
  have wA := hA.1.1
  have hA10 := hA.2.1
  obtain ⟨w, w1, w2, w3⟩ := (cnt_pos n q).mp h
  obtain ⟨i, j, h1, h2, h3⟩ := kPigeon A.1 (fun i => kD A q (w.take i)) (fun i _ => kD_lt wA _ q (fun x hx => w1 x (List.mem_of_mem_take hx)) hq)
  refine ⟨n - (j - i), by omega, by omega, (cnt_pos _ q).mpr ⟨w.take i ++ w.drop j, kW_app (fun x hx => w1 x (List.mem_of_mem_take hx)) (fun x hx => w1 x (List.mem_of_mem_drop hx)), ?_, ?_⟩⟩
  · rw [List.length_append, List.length_take, List.length_drop, w2]
    omega
  · have h3' : kD A q (w.take i) = kD A q (w.take j) := h3
    have e : kL A q w = kL A (kD A q (w.take j)) (w.drop j) := by
      rw [← kL_app, List.take_append_drop]
    rw [kL_app, h3', ← e]
    exact w3
/-- ten lengths without a text: none behind them -/
theorem no_more {A : kA} (hA : kV A) {s n : Nat} (hsn : s + 10 ≤ n) (h : ∀ m, s ≤ m → m < n → cnt A m 0 = 0) : ∀ m, s ≤ m → cnt A m 0 = 0 := by
  intro m
  induction m using Nat.strongRecOn with
  | _ m ih =>
    intro hm
    by_cases hmn : m < n
    · exact h m hm hmn
    · apply Classical.byContradiction
      intro hne
      obtain ⟨m', a1, a2, a3⟩ := pump hA hA.1.1.1 (show 0 < cnt A m 0 by omega) (by omega)
      have := ih m' a2 (by omega)
      omega
theorem fTg_none {A : kA} : ∀ f n j, (∀ m, n ≤ m → cnt A m 0 = 0) → fTg A f n j = none
  | 0, _, _, _ => rfl
  | f + 1, n, j, h => by
    rw [show fTg A (f + 1) n j = (if j < cnt A n 0 then some (spl A n 0 j) else fTg A f (n + 1) (j - cnt A n 0)) from rfl, if_neg (by rw [h n (Nat.le_refl _)]; omega)]
    exact fTg_none f (n + 1) _ (fun m hm => h m (by omega))
/-- how many texts there are of so many lengths -/
def sm (A : kA) : Nat → Nat → Nat
  | 0, _ => 0
  | f + 1, n => cnt A n 0 + sm A f (n + 1)
theorem sm_0 {A : kA} : ∀ f n, (∀ m, n ≤ m → cnt A m 0 = 0) → sm A f n = 0
  | 0, _, _ => rfl
  | f + 1, n, h => by
    show cnt A n 0 + sm A f (n + 1) = 0
    rw [h n (Nat.le_refl _), sm_0 f (n + 1) (fun m hm => h m (by omega))]
theorem fTg_iff {A : kA} : ∀ f n j, fTg A f n j = none ↔ sm A f n ≤ j
  | 0, n, j => ⟨fun _ => Nat.zero_le _, fun _ => rfl⟩
  | f + 1, n, j => by
    rw [show fTg A (f + 1) n j = (if j < cnt A n 0 then some (spl A n 0 j) else fTg A f (n + 1) (j - cnt A n 0)) from rfl, show sm A (f + 1) n = cnt A n 0 + sm A f (n + 1) from rfl]
    by_cases h : j < cnt A n 0
    · rw [if_pos h]
      exact ⟨fun e => absurd e (by simp), fun e => absurd e (by omega)⟩
    · rw [if_neg h, fTg_iff f (n + 1) _]
      omega
section CC
variable (d L : Nat) (g : jG) {J : Nat → Nat → Int64}
theorem c_letter {I : Nat → Nat → Int32} {i : Nat} (hi : i < 220) : jcall (d + 1) 113 [.ref 13, .int (nI i)] (jGs L g, I, J) = some (some (.int (I 15 i)), (jGs L g, I, J)) := by
  rw [c_Texts_letter, e_Texts_letter_0]
  simp (disch := omega) only [li_0, li_1, li_2, li_3, li_4, li_5, li_6, li_7, li_8, li_9, li_10, li_11, li_12, li_13, li_14, li_15, li_16, li_17, li_18, li_19, li_20, li_21, li_22, li_23, li_24, li_25, li_26, li_27, li_28, li_29, li_30, li_31, li_32, li_33, li_34, li_35, li_36, li_37, li_38, li_39, li_40, li_41, li_42, li_43, li_44, li_45, li_46, li_47, li_48, li_49, li_50, li_51, li_52, li_53, li_54, li_55, li_56, li_57, li_58, li_59, li_60, li_61, li_62, li_63, li_64, li_65, li_66, li_67, li_68, li_69, li_70, li_71, li_72, li_73, li_74, li_75, li_76, li_77, li_78, li_79, li_80, li_81, li_82, li_83, li_84, li_85, li_86, li_87, li_88, li_89, li_90, li_91, li_92, li_93, li_94, li_95, li_96, li_97, li_98, li_99, li_100, li_101, li_102, li_103, li_104, li_105, li_106, li_107, li_108, li_109, li_110, li_111, li_112, li_113, li_114, li_115, li_116, li_117, li_118, li_119, li_120, li_121, li_122, li_123, li_124, li_125, li_126, li_127, li_128, li_160, li_219, li_220, li_248, li_249, li_250, li_251, li_255, li_999, li_1000, li_1023, li_1024, li_10240, li_999999, li_1048576, li_1048575, nI_add, nI_mul, zi_div, zi_eq, zi_le, zi_lt, zi_in, zi_c, zi_sub, zi_ofN, zi_m1e, zi_m1e', zi_m1lt, zi_m1le, zi_ltm1, zi_lem1, zi_m1m1, jif_T, jif_F, jif_t, jif_f, zb_1, zb_0, zb_01, zb_ft, zn_01a, zn_01b, zi_tst, zi_pow, cond_true, jcI_some, jcV_some, jcJ_some, Nat.reduceAdd, Nat.reduceMul, Nat.reduceSub, reduceCtorEq, Bool.true_eq_false, Bool.false_eq_true, zb_t, zb_f, Nat.add_zero, Nat.zero_add, Nat.mul_zero, Nat.zero_mul, or_true, true_or, or_false, false_or, and_true, true_and, and_false, false_and, not_true_eq_false, not_false_eq_true]
  rw [e_Texts_letter_23]
theorem c_fill {a n : Nat} {A : kA} (hn : n < 220) : ∀ m q (I : Nat → Nat → Int32), q + m = 10 → cR L g I J a A → a ≠ 14 → (∀ n', n' < n → ∀ x, x < 10 → I 14 (n' * 10 + x) = nI (min (cnt A n' x) 100)) → (∀ x, x < q → I 14 (n * 10 + x) = nI (min (cnt A n x) 100)) → ∃ I', (∀ y, y ≠ 14 → I' y = I y) ∧ (∀ n', n' ≤ n → ∀ x, x < 10 → I' 14 (n' * 10 + x) = nI (min (cnt A n' x) 100)) ∧ jval (d + 1) 120 2 [.ref 13, .ref a, .int (nI n), .int (nI q), jjunk, jjunk] [] (jGs L g, I, J) = some (none, (jGs L g, I', J)) := by
  intro m
  induction m with
  | zero =>
    intro q I hq hA ha h1 h2
    have : q = 10 := by omega
    subst this
    refine ⟨I, fun _ _ => rfl, fun n' hn' x hx => ?_, ?_⟩
    · by_cases h : n' = n
      · subst h; exact h2 x hx
      · exact h1 n' (by omega) x hx
    · rw [e_Texts_fill_2, jif_t (by decide)]
  | succ m ih =>
    intro q I hq hA ha h1 h2
    have k1 : (jGs L g).1 a = 2 := hA.1
    have hV := hA.2.1
    obtain ⟨I', q1, q2, q3⟩ := ih (q + 1) (ju I 14 (n * 10 + q) (nI (min (cnt A n q) 100))) (by omega) (cR_cg L g hA rfl (ju_n ha) rfl) ha (fun n' hn' x hx => by rw [zu_k (by omega)]; exact h1 n' hn' x hx) (fun x hx => by
      by_cases hxq : x = q
      · rw [hxq, zu_at]
      · rw [zu_k (by omega)]; exact h2 x (by omega))
    refine ⟨I', fun y hy => (q1 y hy).trans (ju_n hy), q2, ?_⟩
    have fin : ∀ s, s < 1000 → min s 100 = min (cnt A n q) 100 → jval (d + 1) 120 75 [.ref 13, .ref a, .int (nI n), .int (nI q), .int (nI s), jjunk] [] (jGs L g, I, J) = some (none, (jGs L g, I', J)) := by
      intro s hs he
      have hj : jmm (nI s) (nI 100) = nI (min (cnt A n q) 100) := by rw [jmm_min (by omega) (by omega), he]
      have hb : min (cnt A n q) 100 < 128 := by omega
      rw [e_Texts_fill_75]
      simp (disch := omega) only [li_0, li_1, li_2, li_3, li_4, li_5, li_6, li_7, li_8, li_9, li_10, li_11, li_12, li_13, li_14, li_15, li_16, li_17, li_18, li_19, li_20, li_21, li_22, li_23, li_24, li_25, li_26, li_27, li_28, li_29, li_30, li_31, li_32, li_33, li_34, li_35, li_36, li_37, li_38, li_39, li_40, li_41, li_42, li_43, li_44, li_45, li_46, li_47, li_48, li_49, li_50, li_51, li_52, li_53, li_54, li_55, li_56, li_57, li_58, li_59, li_60, li_61, li_62, li_63, li_64, li_65, li_66, li_67, li_68, li_69, li_70, li_71, li_72, li_73, li_74, li_75, li_76, li_77, li_78, li_79, li_80, li_81, li_82, li_83, li_84, li_85, li_86, li_87, li_88, li_89, li_90, li_91, li_92, li_93, li_94, li_95, li_96, li_97, li_98, li_99, li_100, li_101, li_102, li_103, li_104, li_105, li_106, li_107, li_108, li_109, li_110, li_111, li_112, li_113, li_114, li_115, li_116, li_117, li_118, li_119, li_120, li_121, li_122, li_123, li_124, li_125, li_126, li_127, li_128, li_160, li_219, li_220, li_248, li_249, li_250, li_251, li_255, li_999, li_1000, li_1023, li_1024, li_10240, li_999999, li_1048576, li_1048575, nI_add, nI_mul, zi_div, zi_eq, zi_le, zi_lt, zi_in, zi_c, zi_sub, zi_ofN, zi_m1e, zi_m1e', zi_m1lt, zi_m1le, zi_ltm1, zi_lem1, zi_m1m1, jif_T, jif_F, jif_t, jif_f, zb_1, zb_0, zb_01, zb_ft, zn_01a, zn_01b, zi_tst, zi_pow, cond_true, jcI_some, jcV_some, jcJ_some, Nat.reduceAdd, Nat.reduceMul, Nat.reduceSub, reduceCtorEq, Bool.true_eq_false, Bool.false_eq_true, zb_t, zb_f, Nat.add_zero, Nat.zero_add, Nat.mul_zero, Nat.zero_mul, or_true, true_or, or_false, false_or, and_true, true_and, and_false, false_and, not_true_eq_false, not_false_eq_true, hj, zi_b]
      exact q3
    rw [e_Texts_fill_2, jif_f (show ¬ (10 : Int32) ≤ nI q from nI_ge (a := q) (b := 10) (by omega) (by omega))]
    cases n with
    | zero =>
      rw [jif_t (by decide), if_pos k1, c_isEnd d L g hA (by omega), jcI_some, e_Texts_fill_17]
      have hc : cnt A 0 q = (if A.2.1 q = true then 1 else 0) := rfl
      cases he : A.2.1 q
      · rw [he, if_neg (by decide)] at hc
        rw [jif_t (by decide), e_Texts_fill_24, e_Texts_fill_25, e_Texts_fill_30, jif_f (by decide), jif_t (by decide)]
        exact fin 0 (by omega) (by rw [hc])
      · rw [he, if_pos rfl] at hc
        rw [jif_f (by decide), e_Texts_fill_25, e_Texts_fill_30, jif_f (by decide), jif_t (by decide)]
        exact fin 1 (by omega) (by rw [hc])
    | succ n =>
      have step : ∀ l s, l < 3 → s < 500 → jval (d + 1) 120 30 [.ref 13, .ref a, .int (nI (n + 1)), .int (nI q), .int (nI s), .int (nI l)] [] (jGs L g, I, J) = jval (d + 1) 120 30 [.ref 13, .ref a, .int (nI (n + 1)), .int (nI q), .int (nI (s + min (cnt A n (A.2.2 q l)) 100)), .int (nI (l + 1))] [] (jGs L g, I, J) := by
        intro l s hl hs
        have ht := kV_to hV q l
        have hv := h1 n (by omega) _ ht
        have hj : jmm (nI (A.2.2 q l)) (nI 9) = nI (A.2.2 q l) := jmm_le (by omega) (by omega)
        rw [e_Texts_fill_30, jif_f (show ¬ (3 : Int32) ≤ nI l from nI_ge (a := l) (b := 3) hl (by omega)), jif_f (show ¬ nI (n + 1) ≤ (0 : Int32) from nI_nle (by omega) (by omega)), if_pos k1, c_to d L g hA (by omega) hl, jcI_some, e_Texts_fill_59]
        simp (disch := omega) only [li_0, li_1, li_2, li_3, li_4, li_5, li_6, li_7, li_8, li_9, li_10, li_11, li_12, li_13, li_14, li_15, li_16, li_17, li_18, li_19, li_20, li_21, li_22, li_23, li_24, li_25, li_26, li_27, li_28, li_29, li_30, li_31, li_32, li_33, li_34, li_35, li_36, li_37, li_38, li_39, li_40, li_41, li_42, li_43, li_44, li_45, li_46, li_47, li_48, li_49, li_50, li_51, li_52, li_53, li_54, li_55, li_56, li_57, li_58, li_59, li_60, li_61, li_62, li_63, li_64, li_65, li_66, li_67, li_68, li_69, li_70, li_71, li_72, li_73, li_74, li_75, li_76, li_77, li_78, li_79, li_80, li_81, li_82, li_83, li_84, li_85, li_86, li_87, li_88, li_89, li_90, li_91, li_92, li_93, li_94, li_95, li_96, li_97, li_98, li_99, li_100, li_101, li_102, li_103, li_104, li_105, li_106, li_107, li_108, li_109, li_110, li_111, li_112, li_113, li_114, li_115, li_116, li_117, li_118, li_119, li_120, li_121, li_122, li_123, li_124, li_125, li_126, li_127, li_128, li_160, li_219, li_220, li_248, li_249, li_250, li_251, li_255, li_999, li_1000, li_1023, li_1024, li_10240, li_999999, li_1048576, li_1048575, nI_add, nI_mul, zi_div, zi_eq, zi_le, zi_lt, zi_in, zi_c, zi_sub, zi_ofN, zi_m1e, zi_m1e', zi_m1lt, zi_m1le, zi_ltm1, zi_lem1, zi_m1m1, jif_T, jif_F, jif_t, jif_f, zb_1, zb_0, zb_01, zb_ft, zn_01a, zn_01b, zi_tst, zi_pow, cond_true, jcI_some, jcV_some, jcJ_some, Nat.reduceAdd, Nat.reduceMul, Nat.reduceSub, reduceCtorEq, Bool.true_eq_false, Bool.false_eq_true, zb_t, zb_f, Nat.add_zero, Nat.zero_add, Nat.mul_zero, Nat.zero_mul, or_true, true_or, or_false, false_or, and_true, true_and, and_false, false_and, not_true_eq_false, not_false_eq_true, hj, Nat.add_sub_cancel, hv]
      rw [jif_f (nI_ne0 (by omega) (by omega)), e_Texts_fill_24, e_Texts_fill_25, show (0 : Int32) = nI 0 from rfl, step 0 0 (by omega) (by omega), step (0 + 1) _ (by omega) (by omega), step (0 + 1 + 1) _ (by omega) (by omega), e_Texts_fill_30, jif_t (show (3 : Int32) ≤ nI (0 + 1 + 1 + 1) by decide)]
      refine fin _ (by omega) ?_
      rw [Nat.zero_add, min_sum]
      rfl
theorem c_waysFrom {I : Nat → Nat → Int32} {q n : Nat} (hq : q < 10) (hn : n < 220) : jcall (d + 1) 122 [.ref 13, .int (nI q), .int (nI n)] (jGs L g, I, J) = some (some (.int (I 14 (n * 10 + q))), (jGs L g, I, J)) := by
  rw [c_Texts_waysFrom, e_Texts_waysFrom_0]
  simp (disch := omega) only [li_0, li_1, li_2, li_3, li_4, li_5, li_6, li_7, li_8, li_9, li_10, li_11, li_12, li_13, li_14, li_15, li_16, li_17, li_18, li_19, li_20, li_21, li_22, li_23, li_24, li_25, li_26, li_27, li_28, li_29, li_30, li_31, li_32, li_33, li_34, li_35, li_36, li_37, li_38, li_39, li_40, li_41, li_42, li_43, li_44, li_45, li_46, li_47, li_48, li_49, li_50, li_51, li_52, li_53, li_54, li_55, li_56, li_57, li_58, li_59, li_60, li_61, li_62, li_63, li_64, li_65, li_66, li_67, li_68, li_69, li_70, li_71, li_72, li_73, li_74, li_75, li_76, li_77, li_78, li_79, li_80, li_81, li_82, li_83, li_84, li_85, li_86, li_87, li_88, li_89, li_90, li_91, li_92, li_93, li_94, li_95, li_96, li_97, li_98, li_99, li_100, li_101, li_102, li_103, li_104, li_105, li_106, li_107, li_108, li_109, li_110, li_111, li_112, li_113, li_114, li_115, li_116, li_117, li_118, li_119, li_120, li_121, li_122, li_123, li_124, li_125, li_126, li_127, li_128, li_160, li_219, li_220, li_248, li_249, li_250, li_251, li_255, li_999, li_1000, li_1023, li_1024, li_10240, li_999999, li_1048576, li_1048575, nI_add, nI_mul, zi_div, zi_eq, zi_le, zi_lt, zi_in, zi_c, zi_sub, zi_ofN, zi_m1e, zi_m1e', zi_m1lt, zi_m1le, zi_ltm1, zi_lem1, zi_m1m1, jif_T, jif_F, jif_t, jif_f, zb_1, zb_0, zb_01, zb_ft, zn_01a, zn_01b, zi_tst, zi_pow, cond_true, jcI_some, jcV_some, jcJ_some, Nat.reduceAdd, Nat.reduceMul, Nat.reduceSub, reduceCtorEq, Bool.true_eq_false, Bool.false_eq_true, zb_t, zb_f, Nat.add_zero, Nat.zero_add, Nat.mul_zero, Nat.zero_mul, or_true, true_or, or_false, false_or, and_true, true_and, and_false, false_and, not_true_eq_false, not_false_eq_true]
  rw [e_Texts_waysFrom_32]
theorem c_sp_83 {I : Nat → Nat → Int32} {a n i q l j : Nat} {A : kA} (hA : cR L g I J a A) (ha : a ≠ 15) (hn : n < 220) (hi : i < n) (hq : q < 10) (hl : l < 3) : jval (d + 1) 121 83 [.ref 13, .ref a, .int (nI n), jjunk, .int (nI j), .int (nI q), .int (nI i), .int (nI l), jjunk] [] (jGs L g, I, J) = jval (d + 1) 121 9 [.ref 13, .ref a, .int (nI n), jjunk, .int (nI j), .int (nI (A.2.2 q l)), .int (nI (i + 1)), jjunk, jjunk] [] (jGs L g, ju I 15 i (nI l), J) := by
  have k1 : (jGs L g).1 a = 2 := hA.1
  have hA' : cR L g (ju I 15 i (nI l)) J a A := cR_cg L g hA rfl (ju_n ha) rfl
  rw [e_Texts_spell_83]
  simp (disch := omega) only [li_0, li_1, li_2, li_3, li_4, li_5, li_6, li_7, li_8, li_9, li_10, li_11, li_12, li_13, li_14, li_15, li_16, li_17, li_18, li_19, li_20, li_21, li_22, li_23, li_24, li_25, li_26, li_27, li_28, li_29, li_30, li_31, li_32, li_33, li_34, li_35, li_36, li_37, li_38, li_39, li_40, li_41, li_42, li_43, li_44, li_45, li_46, li_47, li_48, li_49, li_50, li_51, li_52, li_53, li_54, li_55, li_56, li_57, li_58, li_59, li_60, li_61, li_62, li_63, li_64, li_65, li_66, li_67, li_68, li_69, li_70, li_71, li_72, li_73, li_74, li_75, li_76, li_77, li_78, li_79, li_80, li_81, li_82, li_83, li_84, li_85, li_86, li_87, li_88, li_89, li_90, li_91, li_92, li_93, li_94, li_95, li_96, li_97, li_98, li_99, li_100, li_101, li_102, li_103, li_104, li_105, li_106, li_107, li_108, li_109, li_110, li_111, li_112, li_113, li_114, li_115, li_116, li_117, li_118, li_119, li_120, li_121, li_122, li_123, li_124, li_125, li_126, li_127, li_128, li_160, li_219, li_220, li_248, li_249, li_250, li_251, li_255, li_999, li_1000, li_1023, li_1024, li_10240, li_999999, li_1048576, li_1048575, nI_add, nI_mul, zi_div, zi_eq, zi_le, zi_lt, zi_in, zi_c, zi_sub, zi_ofN, zi_m1e, zi_m1e', zi_m1lt, zi_m1le, zi_ltm1, zi_lem1, zi_m1m1, jif_T, jif_F, jif_t, jif_f, zb_1, zb_0, zb_01, zb_ft, zn_01a, zn_01b, zi_tst, zi_pow, cond_true, jcI_some, jcV_some, jcJ_some, Nat.reduceAdd, Nat.reduceMul, Nat.reduceSub, reduceCtorEq, Bool.true_eq_false, Bool.false_eq_true, zb_t, zb_f, Nat.add_zero, Nat.zero_add, Nat.mul_zero, Nat.zero_mul, or_true, true_or, or_false, false_or, and_true, true_and, and_false, false_and, not_true_eq_false, not_false_eq_true, ↓reduceIte, zi_b, k1, c_to d L g hA']
  rw [e_Texts_spell_101, nI_1]
theorem c_sp_9 {a n : Nat} {A : kA} (hn : n < 220) : ∀ m i q j (I : Nat → Nat → Int32), i + m = n → q < A.1 → j < cnt A m q → j < 100 → cR L g I J a A → a ≠ 15 → (∀ n', n' < n → ∀ x, x < 10 → I 14 (n' * 10 + x) = nI (min (cnt A n' x) 100)) → ∃ I', (∀ y, y ≠ 15 → I' y = I y) ∧ (∀ x, x < i → I' 15 x = I 15 x) ∧ (∀ x, x < m → I' 15 (i + x) = nI ((spl A m q j).getD x 0)) ∧ jval (d + 1) 121 9 [.ref 13, .ref a, .int (nI n), jjunk, .int (nI j), .int (nI q), .int (nI i), jjunk, jjunk] [] (jGs L g, I, J) = some (none, (jGs L g, I', J)) := by
  intro m
  induction m with
  | zero =>
    intro i q j I hi hq hj hj2 hA ha hw
    have : i = n := by omega
    subst this
    refine ⟨I, fun _ _ => rfl, fun _ _ => rfl, fun x hx => absurd hx (by omega), ?_⟩
    rw [e_Texts_spell_9, jif_t (nI_le (Nat.le_refl _) (by omega))]
  | succ m ih =>
    intro i q j I hi hq hj hj2 hA ha hw
    have k1 : (jGs L g).1 a = 2 := hA.1
    have hV := hA.2.1
    have wA := hV.1.1
    have hA10 := hV.2.1
    have e1 : nI n - (1 : Int32) - nI i = nI m := by rw [show (1 : Int32) = nI 1 from rfl, zi_sub (by omega), zi_sub (by omega), show n - 1 - i = m by omega]
    have hsum : j < cnt A m (A.2.2 q 0) + cnt A m (A.2.2 q 1) + cnt A m (A.2.2 q 2) := hj
    have fin : ∀ l j', l < 3 → j' < cnt A m (A.2.2 q l) → j' < 100 → spl A (m + 1) q j = l :: spl A m (A.2.2 q l) j' → ∃ I', (∀ y, y ≠ 15 → I' y = I y) ∧ (∀ x, x < i → I' 15 x = I 15 x) ∧ (∀ x, x < m + 1 → I' 15 (i + x) = nI ((spl A (m + 1) q j).getD x 0)) ∧ jval (d + 1) 121 83 [.ref 13, .ref a, .int (nI n), jjunk, .int (nI j'), .int (nI q), .int (nI i), .int (nI l), jjunk] [] (jGs L g, I, J) = some (none, (jGs L g, I', J)) := by
      intro l j' hl hj' hj2' hs
      obtain ⟨I', q1, q2, q3, q4⟩ := ih (i + 1) (A.2.2 q l) j' (ju I 15 i (nI l)) (by omega) (wA.2 q hq l hl) hj' hj2' (cR_cg L g hA rfl (ju_n ha) rfl) ha (fun n' hn' x hx => by rw [zu_a (by omega)]; exact hw n' hn' x hx)
      refine ⟨I', fun y hy => (q1 y hy).trans (ju_n hy), fun x hx => by rw [q2 x (by omega), zu_k (by omega)], fun x hx => ?_, ?_⟩
      · rw [hs]
        cases x with
        | zero => rw [Nat.add_zero, q2 i (by omega), zu_at]; rfl
        | succ x =>
          have := q3 x (by omega)
          rw [show i + 1 + x = i + (x + 1) by omega] at this
          rw [this]
          rfl
      · rw [c_sp_83 d L g hA ha hn (by omega) (by omega) hl, q4]
    have wv : ∀ l, l < 3 → jcall (d + 1) 122 [.ref 13, .int (nI (A.2.2 q l)), .int (nI m)] (jGs L g, I, J) = some (some (.int (nI (min (cnt A m (A.2.2 q l)) 100))), (jGs L g, I, J)) := fun l hl => by
      have ht := wA.2 q hq l hl
      rw [c_waysFrom d L g (by omega) (by omega), hw m (by omega) _ (by omega)]
    have start : jval (d + 1) 121 9 [.ref 13, .ref a, .int (nI n), jjunk, .int (nI j), .int (nI q), .int (nI i), jjunk, jjunk] [] (jGs L g, I, J) = jval (d + 1) 121 37 [.ref 13, .ref a, .int (nI n), jjunk, .int (nI j), .int (nI q), .int (nI i), .int (nI 0), .int (nI (min (cnt A m (A.2.2 q 0)) 100))] [] (jGs L g, I, J) := by
      rw [e_Texts_spell_9, jif_f (nI_ge (by omega) (by omega)), if_pos k1, show (0 : Int32) = nI 0 from rfl, c_to d L g hA (by omega) (by omega), jcI_some, e_Texts_spell_26, e1, wv 0 (by omega), jcI_some, e_Texts_spell_35]
    have next : ∀ l j', l < 2 → j' < 100 → ¬ j' < cnt A m (A.2.2 q l) → jval (d + 1) 121 37 [.ref 13, .ref a, .int (nI n), jjunk, .int (nI j'), .int (nI q), .int (nI i), .int (nI l), .int (nI (min (cnt A m (A.2.2 q l)) 100))] [] (jGs L g, I, J) = jval (d + 1) 121 37 [.ref 13, .ref a, .int (nI n), jjunk, .int (nI (j' - cnt A m (A.2.2 q l))), .int (nI q), .int (nI i), .int (nI (l + 1)), .int (nI (min (cnt A m (A.2.2 q (l + 1))) 100))] [] (jGs L g, I, J) := by
      intro l j' hl hj' hge
      have he : min (cnt A m (A.2.2 q l)) 100 = cnt A m (A.2.2 q l) := by omega
      rw [e_Texts_spell_37, jif_f (show ¬ (2 : Int32) ≤ nI l from nI_ge (a := l) (b := 2) hl (by omega)), he, jif_f (nI_nlt (by omega) (by omega)), if_pos k1, nI_1, c_to d L g hA (by omega) (by omega), jcI_some, e_Texts_spell_69, e1, wv (l + 1) (by omega), jcI_some, e_Texts_spell_78, zi_sub (by omega)]
    have stop : ∀ l j', l < 3 → j' < 100 → (l = 2 ∨ j' < cnt A m (A.2.2 q l)) → jval (d + 1) 121 37 [.ref 13, .ref a, .int (nI n), jjunk, .int (nI j'), .int (nI q), .int (nI i), .int (nI l), .int (nI (min (cnt A m (A.2.2 q l)) 100))] [] (jGs L g, I, J) = jval (d + 1) 121 83 [.ref 13, .ref a, .int (nI n), jjunk, .int (nI j'), .int (nI q), .int (nI i), .int (nI l), jjunk] [] (jGs L g, I, J) := by
      intro l j' hl hj' h
      rw [e_Texts_spell_37]
      by_cases h2 : l = 2
      · rw [jif_t (by rw [h2]; decide)]
      · rw [jif_f (show ¬ (2 : Int32) ≤ nI l from nI_ge (a := l) (b := 2) (by omega) (by omega)), jif_t (nI_lt (by omega) (by omega))]
    rw [start]
    have hspl : spl A (m + 1) q j = (if j < cnt A m (A.2.2 q 0) then 0 :: spl A m (A.2.2 q 0) j else if j < cnt A m (A.2.2 q 0) + cnt A m (A.2.2 q 1) then 1 :: spl A m (A.2.2 q 1) (j - cnt A m (A.2.2 q 0)) else 2 :: spl A m (A.2.2 q 2) (j - cnt A m (A.2.2 q 0) - cnt A m (A.2.2 q 1))) := rfl
    by_cases h0 : j < cnt A m (A.2.2 q 0)
    · rw [stop 0 j (by omega) hj2 (Or.inr h0)]
      exact fin 0 j (by omega) h0 hj2 (by rw [hspl, if_pos h0])
    · rw [next 0 j (by omega) hj2 h0, show (0 + 1 : Nat) = 1 from rfl]
      by_cases h1 : j < cnt A m (A.2.2 q 0) + cnt A m (A.2.2 q 1)
      · rw [stop 1 _ (by omega) (by omega) (Or.inr (by omega))]
        exact fin 1 (j - cnt A m (A.2.2 q 0)) (by omega) (by omega) (by omega) (by rw [hspl, if_neg h0, if_pos h1])
      · rw [next 1 _ (by omega) (by omega) (show ¬ j - cnt A m (A.2.2 q 0) < cnt A m (A.2.2 q 1) by omega), stop (1 + 1) _ (by omega) (by omega) (Or.inl rfl)]
        exact fin 2 (j - cnt A m (A.2.2 q 0) - cnt A m (A.2.2 q 1)) (by omega) (by omega) (by omega) (by rw [hspl, if_neg h0, if_neg h1])
/-- the last length that had a text, and one -/
def lst (s : Nat) : Int32 := nI s - 1
theorem lst_sub {n s : Nat} (h : s ≤ n) : nI n - lst s = nI (n - s + 1) := by
  unfold lst
  cases s with
  | zero =>
    rw [show nI 0 - 1 = (-1 : Int32) by decide, Int32.sub_eq_add_neg, show -(-1 : Int32) = 1 by decide, nI_1]
    rfl
  | succ s => rw [nI_pred, zi_sub (by omega), show n - s = n - (s + 1) + 1 by omega]
theorem lst_s (n : Nat) : lst (n + 1) = nI n := nI_pred n
theorem c_fd_8 {a : Nat} {A : kA} {M : Nat} (hM : M = 220) : ∀ f n s j (I : Nat → Nat → Int32), n + f = M → s ≤ n → j < 100 → cR L g I J a A → a ≠ 14 → a ≠ 15 → (∀ n', n' < n → ∀ x, x < 10 → I 14 (n' * 10 + x) = nI (min (cnt A n' x) 100)) → (∀ m, s ≤ m → m < n → cnt A m 0 = 0) → ∃ I', (∀ y, y ≠ 14 → y ≠ 15 → I' y = I y) ∧ ((∃ w, fTg A f n j = some w ∧ w.length < 220 ∧ (∀ x, x < w.length → I' 15 x = nI (w.getD x 0)) ∧ jval (d + 3) 119 8 [.ref 13, .ref a, jjunk, .int (nI j), .int (lst s), .int (nI n), jjunk] [] (jGs L g, I, J) = some (some (.int (nI w.length)), (jGs L g, I', J))) ∨ (fTg A f n j = none ∧ jval (d + 3) 119 8 [.ref 13, .ref a, jjunk, .int (nI j), .int (lst s), .int (nI n), jjunk] [] (jGs L g, I, J) = some (some (.int (-1)), (jGs L g, I', J)))) := by
  intro f
  induction f with
  | zero =>
    intro n s j I hn hs hj hA a14 a15 hw hz
    refine ⟨I, fun _ _ _ => rfl, Or.inr ⟨rfl, ?_⟩⟩
    rw [e_Texts_find_8, jif_t (show (220 : Int32) ≤ nI n from nI_le (a := 220) (b := n) (by omega) (by omega)), e_Texts_find_87]
  | succ f ih =>
    intro n s j I hn hs hj hA a14 a15 hw hz
    have hV := hA.2.1
    have h220 : ¬ (220 : Int32) ≤ nI n := nI_ge (a := n) (b := 220) (by omega) (by omega)
    by_cases h10 : s + 10 ≤ n
    · refine ⟨I, fun _ _ _ => rfl, Or.inr ⟨fTg_none _ _ _ (fun m hm => no_more hV h10 hz m (by omega)), ?_⟩⟩
      rw [e_Texts_find_8, jif_f h220, lst_sub hs, jif_t (show (10 : Int32) < nI (n - s + 1) from nI_lt (a := 10) (b := n - s + 1) (by omega) (by omega)), e_Texts_find_87]
    · obtain ⟨I1, b1, b2, b3⟩ := c_fill (d + 1) L g (show n < 220 by omega) 10 0 I (by omega) hA a14 hw (fun x hx => absurd hx (by omega))
      have hA1 : cR L g I1 J a A := cR_cg L g hA rfl (b1 a a14) rfl
      have hv := b2 n (Nat.le_refl _) 0 (by omega)
      rw [Nat.add_zero] at hv
      have hcf : jcall (d + 3) 120 [.ref 13, .ref a, .int (nI n)] (jGs L g, I, J) = some (none, (jGs L g, I1, J)) := by
        rw [c_Texts_fill, e_Texts_fill_0]
        exact b3
      have e8 : jval (d + 3) 119 8 [.ref 13, .ref a, jjunk, .int (nI j), .int (lst s), .int (nI n), jjunk] [] (jGs L g, I, J) = jval (d + 3) 119 33 [.ref 13, .ref a, jjunk, .int (nI j), .int (lst s), .int (nI n), jjunk] [] (jGs L g, I1, J) := by
        rw [e_Texts_find_8, jif_f h220, lst_sub hs, jif_f (show ¬ (10 : Int32) < nI (n - s + 1) from nI_nlt (a := 10) (b := n - s + 1) (by omega) (by omega)), hcf, jcV_some]
      rw [e8, show fTg A (f + 1) n j = (if j < cnt A n 0 then some (spl A n 0 j) else fTg A f (n + 1) (j - cnt A n 0)) from rfl]
      have hm2 : min (cnt A n 0) 100 < 2147483648 := by omega
      by_cases hlt : j < cnt A n 0
      · obtain ⟨I2, e1, e2, e3, e4⟩ := c_sp_9 (d + 1) L g (J := J) (show n < 220 by omega) n 0 0 j I1 (by omega) hV.1.1.1 hlt hj hA1 a15 (fun n' hn' x hx => b2 n' (by omega) x hx)
        have hlen := spl_len A n 0 j
        refine ⟨I2, fun y y1 y2 => by rw [e1 y y2, b1 y y1], Or.inl ⟨spl A n 0 j, by rw [if_pos hlt], by omega, fun x hx => ?_, ?_⟩⟩
        · have := e3 x (by omega)
          rw [Nat.zero_add] at this
          exact this
        · have hcs : jcall (d + 3) 121 [.ref 13, .ref a, .int (nI n), .int (nI j)] (jGs L g, I1, J) = some (none, (jGs L g, I2, J)) := by
            rw [c_Texts_spell, e_Texts_spell_0]
            exact e4
          have hm : ¬ min (cnt A n 0) 100 ≤ j := by omega
          rw [e_Texts_find_33]
          simp (disch := omega) only [li_0, li_1, li_2, li_3, li_4, li_5, li_6, li_7, li_8, li_9, li_10, li_11, li_12, li_13, li_14, li_15, li_16, li_17, li_18, li_19, li_20, li_21, li_22, li_23, li_24, li_25, li_26, li_27, li_28, li_29, li_30, li_31, li_32, li_33, li_34, li_35, li_36, li_37, li_38, li_39, li_40, li_41, li_42, li_43, li_44, li_45, li_46, li_47, li_48, li_49, li_50, li_51, li_52, li_53, li_54, li_55, li_56, li_57, li_58, li_59, li_60, li_61, li_62, li_63, li_64, li_65, li_66, li_67, li_68, li_69, li_70, li_71, li_72, li_73, li_74, li_75, li_76, li_77, li_78, li_79, li_80, li_81, li_82, li_83, li_84, li_85, li_86, li_87, li_88, li_89, li_90, li_91, li_92, li_93, li_94, li_95, li_96, li_97, li_98, li_99, li_100, li_101, li_102, li_103, li_104, li_105, li_106, li_107, li_108, li_109, li_110, li_111, li_112, li_113, li_114, li_115, li_116, li_117, li_118, li_119, li_120, li_121, li_122, li_123, li_124, li_125, li_126, li_127, li_128, li_160, li_219, li_220, li_248, li_249, li_250, li_251, li_255, li_999, li_1000, li_1023, li_1024, li_10240, li_999999, li_1048576, li_1048575, nI_add, nI_mul, zi_div, zi_eq, zi_le, zi_lt, zi_in, zi_c, zi_sub, zi_ofN, zi_m1e, zi_m1e', zi_m1lt, zi_m1le, zi_ltm1, zi_lem1, zi_m1m1, jif_T, jif_F, jif_t, jif_f, zb_1, zb_0, zb_01, zb_ft, zn_01a, zn_01b, zi_tst, zi_pow, cond_true, jcI_some, jcV_some, jcJ_some, Nat.reduceAdd, Nat.reduceMul, Nat.reduceSub, reduceCtorEq, Bool.true_eq_false, Bool.false_eq_true, zb_t, zb_f, Nat.add_zero, Nat.zero_add, Nat.mul_zero, Nat.zero_mul, or_true, true_or, or_false, false_or, and_true, true_and, and_false, false_and, not_true_eq_false, not_false_eq_true, hv, hm, hcs]
          rw [e_Texts_find_59, hlen]
      · have he : min (cnt A n 0) 100 = cnt A n 0 := by omega
        have hm : min (cnt A n 0) 100 ≤ j := by omega
        rw [if_neg hlt]
        by_cases hc0 : cnt A n 0 = 0
        · obtain ⟨I2, r1, r2⟩ := ih (n + 1) s (j - cnt A n 0) I1 (by omega) (by omega) (by omega) hA1 a14 a15 (fun n' hn' x hx => b2 n' (by omega) x hx) (fun m m1 m2 => by
            by_cases hmn : m = n
            · rw [hmn]; exact hc0
            · exact hz m m1 (by omega))
          have e33 : jval (d + 3) 119 33 [.ref 13, .ref a, jjunk, .int (nI j), .int (lst s), .int (nI n), jjunk] [] (jGs L g, I1, J) = jval (d + 3) 119 8 [.ref 13, .ref a, jjunk, .int (nI (j - cnt A n 0)), .int (lst s), .int (nI (n + 1)), jjunk] [] (jGs L g, I1, J) := by
            rw [hc0] at hv
            rw [e_Texts_find_33, hc0]
            simp (disch := omega) only [li_0, li_1, li_2, li_3, li_4, li_5, li_6, li_7, li_8, li_9, li_10, li_11, li_12, li_13, li_14, li_15, li_16, li_17, li_18, li_19, li_20, li_21, li_22, li_23, li_24, li_25, li_26, li_27, li_28, li_29, li_30, li_31, li_32, li_33, li_34, li_35, li_36, li_37, li_38, li_39, li_40, li_41, li_42, li_43, li_44, li_45, li_46, li_47, li_48, li_49, li_50, li_51, li_52, li_53, li_54, li_55, li_56, li_57, li_58, li_59, li_60, li_61, li_62, li_63, li_64, li_65, li_66, li_67, li_68, li_69, li_70, li_71, li_72, li_73, li_74, li_75, li_76, li_77, li_78, li_79, li_80, li_81, li_82, li_83, li_84, li_85, li_86, li_87, li_88, li_89, li_90, li_91, li_92, li_93, li_94, li_95, li_96, li_97, li_98, li_99, li_100, li_101, li_102, li_103, li_104, li_105, li_106, li_107, li_108, li_109, li_110, li_111, li_112, li_113, li_114, li_115, li_116, li_117, li_118, li_119, li_120, li_121, li_122, li_123, li_124, li_125, li_126, li_127, li_128, li_160, li_219, li_220, li_248, li_249, li_250, li_251, li_255, li_999, li_1000, li_1023, li_1024, li_10240, li_999999, li_1048576, li_1048575, nI_add, nI_mul, zi_div, zi_eq, zi_le, zi_lt, zi_in, zi_c, zi_sub, zi_ofN, zi_m1e, zi_m1e', zi_m1lt, zi_m1le, zi_ltm1, zi_lem1, zi_m1m1, jif_T, jif_F, jif_t, jif_f, zb_1, zb_0, zb_01, zb_ft, zn_01a, zn_01b, zi_tst, zi_pow, cond_true, jcI_some, jcV_some, jcJ_some, Nat.reduceAdd, Nat.reduceMul, Nat.reduceSub, reduceCtorEq, Bool.true_eq_false, Bool.false_eq_true, zb_t, zb_f, Nat.add_zero, Nat.zero_add, Nat.mul_zero, Nat.zero_mul, or_true, true_or, or_false, false_or, and_true, true_and, and_false, false_and, not_true_eq_false, not_false_eq_true, hv, Nat.zero_min, Nat.zero_le, Nat.sub_zero]
            rw [e_Texts_find_79, nI_1]
          rw [e33]
          exact ⟨I2, fun y y1 y2 => by rw [r1 y y1 y2, b1 y y1], r2⟩
        · obtain ⟨I2, r1, r2⟩ := ih (n + 1) (n + 1) (j - cnt A n 0) I1 (by omega) (by omega) (by omega) hA1 a14 a15 (fun n' hn' x hx => b2 n' (by omega) x hx) (fun m m1 m2 => by omega)
          have e33 : jval (d + 3) 119 33 [.ref 13, .ref a, jjunk, .int (nI j), .int (lst s), .int (nI n), jjunk] [] (jGs L g, I1, J) = jval (d + 3) 119 8 [.ref 13, .ref a, jjunk, .int (nI (j - cnt A n 0)), .int (lst (n + 1)), .int (nI (n + 1)), jjunk] [] (jGs L g, I1, J) := by
            have hpos : ¬ min (cnt A n 0) 100 ≤ 0 := by omega
            rw [e_Texts_find_33, lst_s]
            simp (disch := omega) only [li_0, li_1, li_2, li_3, li_4, li_5, li_6, li_7, li_8, li_9, li_10, li_11, li_12, li_13, li_14, li_15, li_16, li_17, li_18, li_19, li_20, li_21, li_22, li_23, li_24, li_25, li_26, li_27, li_28, li_29, li_30, li_31, li_32, li_33, li_34, li_35, li_36, li_37, li_38, li_39, li_40, li_41, li_42, li_43, li_44, li_45, li_46, li_47, li_48, li_49, li_50, li_51, li_52, li_53, li_54, li_55, li_56, li_57, li_58, li_59, li_60, li_61, li_62, li_63, li_64, li_65, li_66, li_67, li_68, li_69, li_70, li_71, li_72, li_73, li_74, li_75, li_76, li_77, li_78, li_79, li_80, li_81, li_82, li_83, li_84, li_85, li_86, li_87, li_88, li_89, li_90, li_91, li_92, li_93, li_94, li_95, li_96, li_97, li_98, li_99, li_100, li_101, li_102, li_103, li_104, li_105, li_106, li_107, li_108, li_109, li_110, li_111, li_112, li_113, li_114, li_115, li_116, li_117, li_118, li_119, li_120, li_121, li_122, li_123, li_124, li_125, li_126, li_127, li_128, li_160, li_219, li_220, li_248, li_249, li_250, li_251, li_255, li_999, li_1000, li_1023, li_1024, li_10240, li_999999, li_1048576, li_1048575, nI_add, nI_mul, zi_div, zi_eq, zi_le, zi_lt, zi_in, zi_c, zi_sub, zi_ofN, zi_m1e, zi_m1e', zi_m1lt, zi_m1le, zi_ltm1, zi_lem1, zi_m1m1, jif_T, jif_F, jif_t, jif_f, zb_1, zb_0, zb_01, zb_ft, zn_01a, zn_01b, zi_tst, zi_pow, cond_true, jcI_some, jcV_some, jcJ_some, Nat.reduceAdd, Nat.reduceMul, Nat.reduceSub, reduceCtorEq, Bool.true_eq_false, Bool.false_eq_true, zb_t, zb_f, Nat.add_zero, Nat.zero_add, Nat.mul_zero, Nat.zero_mul, or_true, true_or, or_false, false_or, and_true, true_and, and_false, false_and, not_true_eq_false, not_false_eq_true, hv, hm, hpos, he]
            rw [e_Texts_find_79, nI_1]
          rw [e33]
          exact ⟨I2, fun y y1 y2 => by rw [r1 y y1 y2, b1 y y1], r2⟩
theorem c_find {I : Nat → Nat → Int32} {a j : Nat} {A : kA} (hA : cR L g I J a A) (hj : j < 100) : ∃ I', (∀ y, y ≠ 14 → y ≠ 15 → I' y = I y) ∧ ((∃ w, fT A j = some w ∧ w.length < 220 ∧ (∀ x, x < w.length → I' 15 x = nI (w.getD x 0)) ∧ jcall (d + 4) 119 [.ref 13, .ref a, .int (nI j)] (jGs L g, I, J) = some (some (.int (nI w.length)), (jGs L g, I', J))) ∨ (fT A j = none ∧ jcall (d + 4) 119 [.ref 13, .ref a, .int (nI j)] (jGs L g, I, J) = some (some (.int (-1)), (jGs L g, I', J)))) := by
  have a14 : a ≠ 14 := ne_K hA.1 (show gK L g 14 = 14 from rfl) (by omega)
  have a15 : a ≠ 15 := ne_K hA.1 (show gK L g 15 = 14 from rfl) (by omega)
  have h := c_fd_8 d L g (J := J) (A := A) (M := 220) rfl 220 0 0 j I rfl (Nat.le_refl _) hj hA a14 a15 (fun n' hn' => absurd hn' (by omega)) (fun m _ hm => absurd hm (by omega))
  have start : jcall (d + 4) 119 [.ref 13, .ref a, .int (nI j)] (jGs L g, I, J) = jval (d + 3) 119 8 [.ref 13, .ref a, jjunk, .int (nI j), .int (lst 0), .int (nI 0), jjunk] [] (jGs L g, I, J) := by
    rw [c_Texts_find, e_Texts_find_0, show lst 0 = (-1 : Int32) by decide]
    rfl
  rw [start]
  unfold fT
  exact h
end CC

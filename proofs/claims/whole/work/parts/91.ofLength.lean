/-! THE CLASS: how many texts of a length -/
set_option maxRecDepth 100000
theorem jmm_le {t c : Nat} (h : t ≤ c) (hc : c < 2147483648) : jmm (nI t) (nI c) = nI t := by
  unfold jmm
  rw [jif_f (nI_nlt h hc)]
theorem jmm_ge {t c : Nat} (h : c ≤ t) (hc : t < 2147483648) : jmm (nI t) (nI c) = nI c := by
  unfold jmm
  by_cases he : c = t
  · subst he
    rw [jif_f (nI_nlt (Nat.le_refl _) hc)]
  · rw [jif_t (nI_lt (by omega) hc)]
theorem jmm_min {t c : Nat} (ht : t < 2147483648) (hc : c < 2147483648) : jmm (nI t) (nI c) = nI (min t c) := by
  by_cases h : t ≤ c
  · rw [jmm_le h hc, Nat.min_eq_left h]
  · rw [jmm_ge (by omega) ht, Nat.min_eq_right (by omega)]
/-- new cells alone -/
def fA (L : Nat) (g g' : jG) (I I' : Nat → Nat → Int32) (J J' : Nat → Nat → Int64) : Prop := (∀ a, a ≤ g.2.2.2.1 → I' a = I a ∧ J' a = J a ∧ gK L g' a = gK L g a ∧ gN L g' a = gN L g a) ∧ (∀ a k, a ≤ g.2.2.2.1 → g'.2.2.1 a k = g.2.2.1 a k) ∧ g.2.2.2.1 ≤ g'.2.2.2.1
theorem fA_rfl (L : Nat) (g : jG) (I : Nat → Nat → Int32) (J : Nat → Nat → Int64) : fA L g g I I J J := ⟨fun _ _ => ⟨rfl, rfl, rfl, rfl⟩, fun _ _ _ => rfl, Nat.le_refl _⟩
theorem mkI_A {L g g' I I' J J' PC PQ dc dq} (h : mkI L g I PC PQ) (hf : fA L g g' I I' J J') (hC : g'.2.2.2.1 = g.2.2.2.1 + dc) (hQ : g'.2.2.2.2 = g.2.2.2.2 + dq) (h1 : PC + dc ≤ 600000) (h2 : PQ + dq ≤ 7302250) : mkI L g' I' (PC + dc) (PQ + dq) := by
  obtain ⟨kr, rr, sr, gr, fr, c, base, N, z1, z2, z3, z4, z5, z6, z7, z8, z9, z10, z11, z12⟩ := h
  obtain ⟨f1, f2, f3⟩ := hf
  obtain ⟨a1, a2, a3, a4, a5, a6, a7, a8, a9, a10, a11, a12, a13, a14, a15, a16, a17, a18, a19, a20, a21, a22, a23, a24⟩ := z1
  have K := fun a ha => (f1 a ha).2.2.1
  have Ln := fun a ha => (f1 a ha).2.2.2
  have h19 : 19 ≤ g.2.2.2.1 := by omega
  refine ⟨kr, rr, sr, gr, fr, c, base, N, ⟨by rw [f2 19 9 h19]; exact a1, by rw [f2 19 10 h19]; exact a2, by rw [f2 19 11 h19]; exact a3, by rw [f2 19 13 h19]; exact a4, by rw [f2 19 14 h19]; exact a5, (K kr a20).trans a6, (K rr a21).trans a7, (K sr a22).trans a8, (K gr a23).trans a9, (K fr a24).trans a10, (Ln kr a20).trans a11, (Ln rr a21).trans a12, (Ln sr a22).trans a13, (Ln gr a23).trans a14, (Ln fr a24).trans a15, a16, a17, a18, a19, by omega, by omega, by omega, by omega, by omega⟩, z2, z3, by rw [(f1 19 h19).1]; exact z4, by rw [(f1 19 h19).1]; exact z5, z6, fun x hx => by rw [(f1 sr a22).1]; exact z7 x hx, by omega, by unfold pC at z9 ⊢; omega, by unfold pQ at z10 ⊢; omega, h1, h2⟩
section CC
variable (d L : Nat) {g : jG} {I : Nat → Nat → Int32}
theorem c_of_14 {a n a3 a4 : Nat} {A : kA} (k3 : (jGs L g).1 a3 = 16) (l3 : (jGs L g).2.1 a3 = 10) (hne : a ≠ a3) : ∀ m q (J : Nat → Nat → Int64), q + m = 10 → cR L g I J a A → (∀ x, x < q → J a3 x = lN (cnt A 0 x)) → ∃ J', (∀ y, y ≠ a3 → J' y = J y) ∧ (∀ x, x < 10 → J' a3 x = lN (cnt A 0 x)) ∧ jval (d + 1) 117 14 [jjunk, .ref a, .int (nI n), .ref a3, .ref a4, .int (nI q), jjunk, jjunk] [] (jGs L g, I, J) = jval (d + 1) 117 48 [jjunk, .ref a, .int (nI n), .ref a3, .ref a4, .int (nI 0), jjunk, jjunk] [] (jGs L g, I, J') := by
  intro m
  induction m with
  | zero =>
    intro q J hq hA h
    have : q = 10 := by omega
    subst this
    refine ⟨J, fun _ _ => rfl, h, ?_⟩
    rw [e_Texts_ofLength_14, jif_t (by decide)]
    rfl
  | succ m ih =>
    intro q J hq hA h
    have k1 : (jGs L g).1 a = 2 := hA.1
    obtain ⟨J', q1, q2, q3⟩ := ih (q + 1) (ju J a3 q (lN (cnt A 0 q))) (by omega) (cR_cg L g hA rfl rfl (ju_n hne)) (fun x hx => by
      by_cases hxq : x = q
      · rw [hxq, zu_at]
      · rw [zu_k hxq]; exact h x (by omega))
    refine ⟨J', fun y hy => (q1 y hy).trans (ju_n hy), q2, ?_⟩
    rw [e_Texts_ofLength_14, jif_f (show ¬ (10 : Int32) ≤ nI q from nI_ge (a := q) (b := 10) (by omega) (by omega)), if_pos k1, c_isEnd d L g hA (by omega), jcI_some, e_Texts_ofLength_30, ← q3, show cnt A 0 q = (if A.2.1 q = true then 1 else 0) from rfl]
    cases A.2.1 q
    · rw [jif_t (by decide), e_Texts_ofLength_38]
      simp (disch := omega) only [li_0, li_1, li_2, li_3, li_4, li_5, li_6, li_7, li_8, li_9, li_10, li_11, li_12, li_13, li_14, li_15, li_16, li_17, li_18, li_19, li_20, li_21, li_22, li_23, li_24, li_25, li_26, li_27, li_28, li_29, li_30, li_31, li_32, li_33, li_34, li_35, li_36, li_37, li_38, li_39, li_40, li_41, li_42, li_43, li_44, li_45, li_46, li_47, li_48, li_49, li_50, li_51, li_52, li_53, li_54, li_55, li_56, li_57, li_58, li_59, li_60, li_61, li_62, li_63, li_64, li_65, li_66, li_67, li_68, li_69, li_70, li_71, li_72, li_73, li_74, li_75, li_76, li_77, li_78, li_79, li_80, li_81, li_82, li_83, li_84, li_85, li_86, li_87, li_88, li_89, li_90, li_91, li_92, li_93, li_94, li_95, li_96, li_97, li_98, li_99, li_100, li_101, li_102, li_103, li_104, li_105, li_106, li_107, li_108, li_109, li_110, li_111, li_112, li_113, li_114, li_115, li_116, li_117, li_118, li_119, li_120, li_121, li_122, li_123, li_124, li_125, li_126, li_127, li_128, li_160, li_219, li_220, li_248, li_249, li_250, li_251, li_255, li_999, li_1000, li_1023, li_1024, li_10240, li_999999, li_1048576, li_1048575, nI_add, nI_mul, zi_div, zi_eq, zi_le, zi_lt, zi_in, zi_c, zi_sub, zi_ofN, zi_m1e, zi_m1e', zi_m1lt, zi_m1le, zi_ltm1, zi_lem1, zi_m1m1, jif_T, jif_F, jif_t, jif_f, zb_1, zb_0, zb_01, zb_ft, zn_01a, zn_01b, zi_tst, zi_pow, cond_true, jcI_some, jcV_some, jcJ_some, Nat.reduceAdd, Nat.reduceMul, Nat.reduceSub, reduceCtorEq, Bool.true_eq_false, Bool.false_eq_true, zb_t, zb_f, Nat.add_zero, Nat.zero_add, Nat.mul_zero, Nat.zero_mul, or_true, true_or, or_false, false_or, and_true, true_and, and_false, false_and, not_true_eq_false, not_false_eq_true, ll_0, ll_1, ↓reduceIte, k3, l3]
    · rw [jif_f (by decide), e_Texts_ofLength_38]
      simp (disch := omega) only [li_0, li_1, li_2, li_3, li_4, li_5, li_6, li_7, li_8, li_9, li_10, li_11, li_12, li_13, li_14, li_15, li_16, li_17, li_18, li_19, li_20, li_21, li_22, li_23, li_24, li_25, li_26, li_27, li_28, li_29, li_30, li_31, li_32, li_33, li_34, li_35, li_36, li_37, li_38, li_39, li_40, li_41, li_42, li_43, li_44, li_45, li_46, li_47, li_48, li_49, li_50, li_51, li_52, li_53, li_54, li_55, li_56, li_57, li_58, li_59, li_60, li_61, li_62, li_63, li_64, li_65, li_66, li_67, li_68, li_69, li_70, li_71, li_72, li_73, li_74, li_75, li_76, li_77, li_78, li_79, li_80, li_81, li_82, li_83, li_84, li_85, li_86, li_87, li_88, li_89, li_90, li_91, li_92, li_93, li_94, li_95, li_96, li_97, li_98, li_99, li_100, li_101, li_102, li_103, li_104, li_105, li_106, li_107, li_108, li_109, li_110, li_111, li_112, li_113, li_114, li_115, li_116, li_117, li_118, li_119, li_120, li_121, li_122, li_123, li_124, li_125, li_126, li_127, li_128, li_160, li_219, li_220, li_248, li_249, li_250, li_251, li_255, li_999, li_1000, li_1023, li_1024, li_10240, li_999999, li_1048576, li_1048575, nI_add, nI_mul, zi_div, zi_eq, zi_le, zi_lt, zi_in, zi_c, zi_sub, zi_ofN, zi_m1e, zi_m1e', zi_m1lt, zi_m1le, zi_ltm1, zi_lem1, zi_m1m1, jif_T, jif_F, jif_t, jif_f, zb_1, zb_0, zb_01, zb_ft, zn_01a, zn_01b, zi_tst, zi_pow, cond_true, jcI_some, jcV_some, jcJ_some, Nat.reduceAdd, Nat.reduceMul, Nat.reduceSub, reduceCtorEq, Bool.true_eq_false, Bool.false_eq_true, zb_t, zb_f, Nat.add_zero, Nat.zero_add, Nat.mul_zero, Nat.zero_mul, or_true, true_or, or_false, false_or, and_true, true_and, and_false, false_and, not_true_eq_false, not_false_eq_true, ll_0, ll_1, ↓reduceIte, k3, l3]
theorem c_of_57 {a n a3 a4 i : Nat} {A : kA} {x5 : Nat} (k3 : (jGs L g).1 a3 = 16) (k4 : (jGs L g).1 a4 = 16) (l3 : (jGs L g).2.1 a3 = 10) (l4 : (jGs L g).2.1 a4 = 10) (hne : a ≠ a4) (h34 : a3 ≠ a4) : ∀ m q (J : Nat → Nat → Int64), q + m = 10 → cR L g I J a A → (∀ x, x < 10 → J a3 x = lN (cnt A i x)) → (∀ x, x < q → J a4 x = lN (cnt A (i + 1) x)) → ∃ J', (∀ y, y ≠ a4 → J' y = J y) ∧ (∀ x, x < 10 → J' a4 x = lN (cnt A (i + 1) x)) ∧ jval (d + 1) 117 57 [jjunk, .ref a, .int (nI n), .ref a3, .ref a4, .int (nI x5), .int (nI q), jjunk] [] (jGs L g, I, J) = jval (d + 1) 117 48 [jjunk, .ref a, .int (nI n), .ref a4, .ref a3, .int (nI (x5 + 1)), jjunk, jjunk] [] (jGs L g, I, J') := by
  intro m
  induction m with
  | zero =>
    intro q J hq hA h1 h2
    have : q = 10 := by omega
    subst this
    refine ⟨J, fun _ _ => rfl, h2, ?_⟩
    rw [e_Texts_ofLength_57, jif_t (by decide), nI_1]
  | succ m ih =>
    intro q J hq hA h1 h2
    have k1 : (jGs L g).1 a = 2 := hA.1
    have hV := hA.2.1
    have step : ∀ l s (J1 : Nat → Nat → Int64), l < 3 → (∀ y, y ≠ a4 → J1 y = J y) → J1 a4 q = lN s → jval (d + 1) 117 73 [jjunk, .ref a, .int (nI n), .ref a3, .ref a4, .int (nI x5), .int (nI q), .int (nI l)] [] (jGs L g, I, J1) = jval (d + 1) 117 73 [jjunk, .ref a, .int (nI n), .ref a3, .ref a4, .int (nI x5), .int (nI q), .int (nI (l + 1))] [] (jGs L g, I, ju J1 a4 q (lN (s + cnt A i (A.2.2 q l)))) := by
      intro l s J1 hl hf hs
      have ht := kV_to hV q l
      have hA1 : cR L g I J1 a A := cR_cg L g hA rfl rfl (hf a hne)
      have hv : J1 a3 (A.2.2 q l) = lN (cnt A i (A.2.2 q l)) := by rw [hf a3 h34]; exact h1 _ ht
      have hj : jmm (nI (A.2.2 q l)) (nI 9) = nI (A.2.2 q l) := jmm_le (by omega) (by omega)
      rw [e_Texts_ofLength_73, jif_f (show ¬ (3 : Int32) ≤ nI l from nI_ge (a := l) (b := 3) hl (by omega)), if_pos k4, l4, jin_nI (by omega) (by omega), nI_c (by omega), cond_true, if_pos k1, c_to d L g hA1 (by omega) hl, jcI_some, hs, e_Texts_ofLength_94]
      simp (disch := omega) only [li_0, li_1, li_2, li_3, li_4, li_5, li_6, li_7, li_8, li_9, li_10, li_11, li_12, li_13, li_14, li_15, li_16, li_17, li_18, li_19, li_20, li_21, li_22, li_23, li_24, li_25, li_26, li_27, li_28, li_29, li_30, li_31, li_32, li_33, li_34, li_35, li_36, li_37, li_38, li_39, li_40, li_41, li_42, li_43, li_44, li_45, li_46, li_47, li_48, li_49, li_50, li_51, li_52, li_53, li_54, li_55, li_56, li_57, li_58, li_59, li_60, li_61, li_62, li_63, li_64, li_65, li_66, li_67, li_68, li_69, li_70, li_71, li_72, li_73, li_74, li_75, li_76, li_77, li_78, li_79, li_80, li_81, li_82, li_83, li_84, li_85, li_86, li_87, li_88, li_89, li_90, li_91, li_92, li_93, li_94, li_95, li_96, li_97, li_98, li_99, li_100, li_101, li_102, li_103, li_104, li_105, li_106, li_107, li_108, li_109, li_110, li_111, li_112, li_113, li_114, li_115, li_116, li_117, li_118, li_119, li_120, li_121, li_122, li_123, li_124, li_125, li_126, li_127, li_128, li_160, li_219, li_220, li_248, li_249, li_250, li_251, li_255, li_999, li_1000, li_1023, li_1024, li_10240, li_999999, li_1048576, li_1048575, nI_add, nI_mul, zi_div, zi_eq, zi_le, zi_lt, zi_in, zi_c, zi_sub, zi_ofN, zi_m1e, zi_m1e', zi_m1lt, zi_m1le, zi_ltm1, zi_lem1, zi_m1m1, jif_T, jif_F, jif_t, jif_f, zb_1, zb_0, zb_01, zb_ft, zn_01a, zn_01b, zi_tst, zi_pow, cond_true, jcI_some, jcV_some, jcJ_some, Nat.reduceAdd, Nat.reduceMul, Nat.reduceSub, reduceCtorEq, Bool.true_eq_false, Bool.false_eq_true, zb_t, zb_f, Nat.add_zero, Nat.zero_add, Nat.mul_zero, Nat.zero_mul, or_true, true_or, or_false, false_or, and_true, true_and, and_false, false_and, not_true_eq_false, not_false_eq_true, ↓reduceIte, k3, k4, l3, l4, hj, hv, lN_add]
    obtain ⟨J', q1, q2, q3⟩ := ih (q + 1) (ju (ju (ju (ju J a4 q (lN 0)) a4 q (lN (0 + cnt A i (A.2.2 q 0)))) a4 q (lN (0 + cnt A i (A.2.2 q 0) + cnt A i (A.2.2 q 1)))) a4 q (lN (0 + cnt A i (A.2.2 q 0) + cnt A i (A.2.2 q 1) + cnt A i (A.2.2 q 2)))) (by omega) (cR_cg L g hA rfl rfl (by rw [ju_n hne, ju_n hne, ju_n hne, ju_n hne])) (fun x hx => by rw [zu_a h34, zu_a h34, zu_a h34, zu_a h34]; exact h1 x hx) (fun x hx => by
      by_cases hxq : x = q
      · rw [hxq, zu_at, Nat.zero_add]; rfl
      · rw [zu_k hxq, zu_k hxq, zu_k hxq, zu_k hxq]; exact h2 x (by omega))
    refine ⟨J', fun y hy => by rw [q1 y hy, ju_n hy, ju_n hy, ju_n hy, ju_n hy], q2, ?_⟩
    rw [e_Texts_ofLength_57, jif_f (show ¬ (10 : Int32) ≤ nI q from nI_ge (a := q) (b := 10) (by omega) (by omega)), if_pos k4, l4, jin_nI (by omega) (by omega), nI_c (by omega), cond_true, show (0 : Int64) = lN 0 from rfl, show (0 : Int32) = nI 0 from rfl, step 0 0 _ (by omega) (fun y hy => ju_n hy) (zu_at _ _ _ _), step (0 + 1) _ _ (by omega) (fun y hy => by rw [ju_n hy, ju_n hy]) (zu_at _ _ _ _), step (0 + 1 + 1) _ _ (by omega) (fun y hy => by rw [ju_n hy, ju_n hy, ju_n hy]) (zu_at _ _ _ _), e_Texts_ofLength_73, jif_t (show (3 : Int32) ≤ nI (0 + 1 + 1 + 1) by decide), nI_1]
    exact q3
theorem c_of_48 {a n : Nat} {A : kA} : ∀ m i a3 a4 (J : Nat → Nat → Int64), i + m = n → (jGs L g).1 a3 = 16 → (jGs L g).1 a4 = 16 → (jGs L g).2.1 a3 = 10 → (jGs L g).2.1 a4 = 10 → a ≠ a3 → a ≠ a4 → a3 ≠ a4 → n < 100 → cR L g I J a A → (∀ x, x < 10 → J a3 x = lN (cnt A i x)) → ∃ J', (∀ y, y ≠ a3 → y ≠ a4 → J' y = J y) ∧ jval (d + 1) 117 48 [jjunk, .ref a, .int (nI n), .ref a3, .ref a4, .int (nI i), jjunk, jjunk] [] (jGs L g, I, J) = some (some (.long (lN (cnt A n 0))), (jGs L g, I, J')) := by
  intro m
  induction m with
  | zero =>
    intro i a3 a4 J hi k3 k4 l3 l4 n3 n4 n34 hn hA h
    have : i = n := by omega
    subst this
    have hv := h 0 (by omega)
    refine ⟨J, fun _ _ _ => rfl, ?_⟩
    rw [e_Texts_ofLength_48]
    simp (disch := omega) only [li_0, li_1, li_2, li_3, li_4, li_5, li_6, li_7, li_8, li_9, li_10, li_11, li_12, li_13, li_14, li_15, li_16, li_17, li_18, li_19, li_20, li_21, li_22, li_23, li_24, li_25, li_26, li_27, li_28, li_29, li_30, li_31, li_32, li_33, li_34, li_35, li_36, li_37, li_38, li_39, li_40, li_41, li_42, li_43, li_44, li_45, li_46, li_47, li_48, li_49, li_50, li_51, li_52, li_53, li_54, li_55, li_56, li_57, li_58, li_59, li_60, li_61, li_62, li_63, li_64, li_65, li_66, li_67, li_68, li_69, li_70, li_71, li_72, li_73, li_74, li_75, li_76, li_77, li_78, li_79, li_80, li_81, li_82, li_83, li_84, li_85, li_86, li_87, li_88, li_89, li_90, li_91, li_92, li_93, li_94, li_95, li_96, li_97, li_98, li_99, li_100, li_101, li_102, li_103, li_104, li_105, li_106, li_107, li_108, li_109, li_110, li_111, li_112, li_113, li_114, li_115, li_116, li_117, li_118, li_119, li_120, li_121, li_122, li_123, li_124, li_125, li_126, li_127, li_128, li_160, li_219, li_220, li_248, li_249, li_250, li_251, li_255, li_999, li_1000, li_1023, li_1024, li_10240, li_999999, li_1048576, li_1048575, nI_add, nI_mul, zi_div, zi_eq, zi_le, zi_lt, zi_in, zi_c, zi_sub, zi_ofN, zi_m1e, zi_m1e', zi_m1lt, zi_m1le, zi_ltm1, zi_lem1, zi_m1m1, jif_T, jif_F, jif_t, jif_f, zb_1, zb_0, zb_01, zb_ft, zn_01a, zn_01b, zi_tst, zi_pow, cond_true, jcI_some, jcV_some, jcJ_some, Nat.reduceAdd, Nat.reduceMul, Nat.reduceSub, reduceCtorEq, Bool.true_eq_false, Bool.false_eq_true, zb_t, zb_f, Nat.add_zero, Nat.zero_add, Nat.mul_zero, Nat.zero_mul, or_true, true_or, or_false, false_or, and_true, true_and, and_false, false_and, not_true_eq_false, not_false_eq_true, ↓reduceIte, k3, l3, hv]
  | succ m ih =>
    intro i a3 a4 J hi k3 k4 l3 l4 n3 n4 n34 hn hA h
    obtain ⟨J1, a1, a2, a5⟩ := c_of_57 d L (n := n) (x5 := i) k3 k4 l3 l4 n4 n34 10 0 J (by omega) hA h (fun x hx => absurd hx (by omega))
    obtain ⟨J', q1, q2⟩ := ih (i + 1) a4 a3 J1 (by omega) k4 k3 l4 l3 n4 n3 (fun e => n34 e.symm) hn (cR_cg L g hA rfl rfl (a1 a n4)) a2
    refine ⟨J', fun y y1 y2 => by rw [q1 y y2 y1, a1 y y2], ?_⟩
    rw [e_Texts_ofLength_48, jif_f (nI_ge (by omega) (by omega)), show (0 : Int32) = nI 0 from rfl, a5]
    exact q2
theorem c_ofLength {J : Nat → Nat → Int64} {a n : Nat} {A : kA} (hA : cR L g I J a A) (haC : a ≤ g.2.2.2.1) (hn : n ≤ 20) (h168 : 168 ≤ g.2.2.2.1) (hC : g.2.2.2.1 + 2 ≤ 600000) (hQ : g.2.2.2.2 + 20 ≤ 7302250) : ∃ g' I' J', fA L g g' I I' J J' ∧ g'.2.2.2.1 = g.2.2.2.1 + 2 ∧ g'.2.2.2.2 = g.2.2.2.2 + 20 ∧ jcall (d + 2) 117 [.ref 13, .ref a, .int (nI n)] (jGs L g, I, J) = some (some (.long (lN (cnt A n 0))), (jGs L g', I', J')) := by
  obtain ⟨g1, x1, c1, q1, kn1, ln1, o1, r1, z1⟩ := jga_all L g 16 10 10 (by omega)
  obtain ⟨g2, x2, c2, q2, kn2, ln2, o2, r2, z2⟩ := jga_all L g1 16 10 10 (by omega)
  generalize hCd : g.2.2.2.1 = C at *
  rw [c1] at x2 c2 kn2 ln2 o2 r2 z2
  have hA2 : cR L g2 (jup (jup I (C + 1) (fun _ => nI 0)) (C + 1 + 1) (fun _ => nI 0)) (jup (jup J (C + 1) (fun _ => 0)) (C + 1 + 1) (fun _ => 0)) a A := cR_cg L g hA (by rw [(o2 a (by omega)).1, (o1 a (by omega)).1]) (by rw [jup_n (by omega), jup_n (by omega)]) (by rw [jup_n (by omega), jup_n (by omega)])
  have k3 : (jGs L g2).1 (C + 1) = 16 := (o2 (C + 1) (by omega)).1.trans kn1
  have l3 : (jGs L g2).2.1 (C + 1) = 10 := (o2 (C + 1) (by omega)).2.trans ln1
  obtain ⟨J1, b1, b2, b3⟩ := c_of_14 d L (g := g2) (n := n) (a4 := C + 1 + 1) k3 l3 (by omega) 10 0 _ (by omega) hA2 (fun x hx => absurd hx (by omega))
  obtain ⟨J', e1, e2⟩ := c_of_48 d L (g := g2) (n := n) n 0 (C + 1) (C + 1 + 1) J1 (by omega) k3 kn2 l3 ln2 (by omega) (by omega) (by omega) (by omega) (cR_cg L g2 hA2 rfl rfl (b1 a (by omega))) b2
  refine ⟨g2, jup (jup I (C + 1) (fun _ => nI 0)) (C + 1 + 1) (fun _ => nI 0), J', ⟨fun x hx => ⟨?_, ?_, ?_, ?_⟩, fun x k hx => ?_, ?_⟩, ?_, ?_, ?_⟩
  · rw [hCd] at hx; rw [jup_n (by omega), jup_n (by omega)]
  · rw [hCd] at hx; rw [e1 x (by omega) (by omega), b1 x (by omega), jup_n (by omega), jup_n (by omega)]
  · rw [hCd] at hx; exact (o2 x (by omega)).1.trans (o1 x (by omega)).1
  · rw [hCd] at hx; exact (o2 x (by omega)).2.trans (o1 x (by omega)).2
  · rw [hCd] at hx; rw [r2 x k (by omega), r1 x k (by omega)]
  · rw [c2, hCd]; omega
  · rw [c2]
  · rw [q2, q1]
  · have hr1 : ∀ I' : Nat → Nat → Int32, jrm (jGs L g, I', J) 10 = true := fun I' => jrm_t (by omega) (by omega)
    have hr2 : ∀ (I' : Nat → Nat → Int32) (J' : Nat → Nat → Int64), jrm (jGs L g1, I', J') 10 = true := fun I' J' => jrm_t (by omega) (by omega)
    rw [c_Texts_ofLength, e_Texts_ofLength_0]
    simp (disch := omega) only [li_0, li_1, li_2, li_3, li_4, li_5, li_6, li_7, li_8, li_9, li_10, li_11, li_12, li_13, li_14, li_15, li_16, li_17, li_18, li_19, li_20, li_21, li_22, li_23, li_24, li_25, li_26, li_27, li_28, li_29, li_30, li_31, li_32, li_33, li_34, li_35, li_36, li_37, li_38, li_39, li_40, li_41, li_42, li_43, li_44, li_45, li_46, li_47, li_48, li_49, li_50, li_51, li_52, li_53, li_54, li_55, li_56, li_57, li_58, li_59, li_60, li_61, li_62, li_63, li_64, li_65, li_66, li_67, li_68, li_69, li_70, li_71, li_72, li_73, li_74, li_75, li_76, li_77, li_78, li_79, li_80, li_81, li_82, li_83, li_84, li_85, li_86, li_87, li_88, li_89, li_90, li_91, li_92, li_93, li_94, li_95, li_96, li_97, li_98, li_99, li_100, li_101, li_102, li_103, li_104, li_105, li_106, li_107, li_108, li_109, li_110, li_111, li_112, li_113, li_114, li_115, li_116, li_117, li_118, li_119, li_120, li_121, li_122, li_123, li_124, li_125, li_126, li_127, li_128, li_160, li_219, li_220, li_248, li_249, li_250, li_251, li_255, li_999, li_1000, li_1023, li_1024, li_10240, li_999999, li_1048576, li_1048575, nI_add, nI_mul, zi_div, zi_eq, zi_le, zi_lt, zi_in, zi_c, zi_sub, zi_ofN, zi_m1e, zi_m1e', zi_m1lt, zi_m1le, zi_ltm1, zi_lem1, zi_m1m1, jif_T, jif_F, jif_t, jif_f, zb_1, zb_0, zb_01, zb_ft, zn_01a, zn_01b, zi_tst, zi_pow, cond_true, jcI_some, jcV_some, jcJ_some, Nat.reduceAdd, Nat.reduceMul, Nat.reduceSub, reduceCtorEq, Bool.true_eq_false, Bool.false_eq_true, zb_t, zb_f, Nat.add_zero, Nat.zero_add, Nat.mul_zero, Nat.zero_mul, or_true, true_or, or_false, false_or, and_true, true_and, and_false, false_and, not_true_eq_false, not_false_eq_true, hr1, zb_le, Bool.and_self, x1, hCd]
    rw [e_Texts_ofLength_4]
    simp (disch := omega) only [li_0, li_1, li_2, li_3, li_4, li_5, li_6, li_7, li_8, li_9, li_10, li_11, li_12, li_13, li_14, li_15, li_16, li_17, li_18, li_19, li_20, li_21, li_22, li_23, li_24, li_25, li_26, li_27, li_28, li_29, li_30, li_31, li_32, li_33, li_34, li_35, li_36, li_37, li_38, li_39, li_40, li_41, li_42, li_43, li_44, li_45, li_46, li_47, li_48, li_49, li_50, li_51, li_52, li_53, li_54, li_55, li_56, li_57, li_58, li_59, li_60, li_61, li_62, li_63, li_64, li_65, li_66, li_67, li_68, li_69, li_70, li_71, li_72, li_73, li_74, li_75, li_76, li_77, li_78, li_79, li_80, li_81, li_82, li_83, li_84, li_85, li_86, li_87, li_88, li_89, li_90, li_91, li_92, li_93, li_94, li_95, li_96, li_97, li_98, li_99, li_100, li_101, li_102, li_103, li_104, li_105, li_106, li_107, li_108, li_109, li_110, li_111, li_112, li_113, li_114, li_115, li_116, li_117, li_118, li_119, li_120, li_121, li_122, li_123, li_124, li_125, li_126, li_127, li_128, li_160, li_219, li_220, li_248, li_249, li_250, li_251, li_255, li_999, li_1000, li_1023, li_1024, li_10240, li_999999, li_1048576, li_1048575, nI_add, nI_mul, zi_div, zi_eq, zi_le, zi_lt, zi_in, zi_c, zi_sub, zi_ofN, zi_m1e, zi_m1e', zi_m1lt, zi_m1le, zi_ltm1, zi_lem1, zi_m1m1, jif_T, jif_F, jif_t, jif_f, zb_1, zb_0, zb_01, zb_ft, zn_01a, zn_01b, zi_tst, zi_pow, cond_true, jcI_some, jcV_some, jcJ_some, Nat.reduceAdd, Nat.reduceMul, Nat.reduceSub, reduceCtorEq, Bool.true_eq_false, Bool.false_eq_true, zb_t, zb_f, Nat.add_zero, Nat.zero_add, Nat.mul_zero, Nat.zero_mul, or_true, true_or, or_false, false_or, and_true, true_and, and_false, false_and, not_true_eq_false, not_false_eq_true, hr2, zb_le, Bool.and_self, x2, c1]
    rw [e_Texts_ofLength_9, show (0 : Int32) = nI 0 from rfl, b3]
    exact e2
end CC

/-! the least text by breadth first search; the reference's manyOf -/
set_option maxRecDepth 100000
theorem bf_uniq {nx : Nat → Nat → Nat} {K K' T T' : Nat → Nat} {N N' p p' : Nat} (h : bf nx K T N p) (h' : bf nx K' T' N' p') (h0 : K 0 = K' 0) (hg : ∀ i, 3 * i < p → i ≤ tM T (3 * i)) (hp : p ≤ p') : ∀ q, q ≤ p → (∀ x, x < q → T' x = T x) ∧ ∀ i, i ≤ tM T q → K' i = K i := by
  intro q
  induction q with
  | zero =>
    intro _
    refine ⟨fun x hx => absurd hx (by omega), fun i hi => ?_⟩
    have : i = 0 := by have : i ≤ 0 := hi; omega
    rw [this]; exact h0.symm
  | succ q ih =>
    intro hq
    obtain ⟨e1, e2⟩ := ih (by omega)
    have hc := tM_congr q e1
    obtain ⟨a1, a2, a3⟩ := h.2.1 q (by omega)
    obtain ⟨b1, b2, b3⟩ := h'.2.1 q (by omega)
    have hq3 : q / 3 ≤ tM T q := Nat.le_trans (hg (q / 3) (by omega)) (tM_mono T (by omega))
    have hK := e2 _ hq3
    have hy : K' (T' q) = K (T q) := by rw [b3, a3, hK]
    have s1 := h.2.2.1 q (by omega)
    have s2 := h'.2.2.1 q (by omega)
    rw [hc] at s2
    have hN : tM T q + 1 ≤ N := by have := h.2.2.2; have := tM_mono T (show q ≤ p by omega); omega
    have hN' : tM T q + 1 ≤ N' := by
      have := h'.2.2.2
      have := tM_mono T' (show q ≤ p' by omega)
      omega
    have hT : T' q = T q := by
      by_cases hx : T q ≤ tM T q
      · exact h'.1 _ b1 _ (by omega) (by rw [hy, e2 _ hx])
      · by_cases hx' : T' q ≤ tM T q
        · have : K (T' q) = K (T q) := by rw [← e2 _ hx', hy]
          exact h.1 _ (by omega) _ a1 this
        · omega
    refine ⟨fun x hx => ?_, fun i hi => ?_⟩
    · by_cases hxq : x = q
      · rw [hxq]; exact hT
      · exact e1 x (by omega)
    · rw [tM_succ] at hi
      by_cases hi' : i ≤ tM T q
      · exact e2 i hi'
      · have : i = T q := by omega
        rw [this, ← hT, hy, hT]
/-- a state's way back to the first -/
def pr (T : Nat → Nat) (p : Nat) : Nat → List Nat → Prop
  | i, [] => i = 0
  | i, l :: w => 0 < i ∧ ∃ q, q < p ∧ T q = i ∧ (∀ q', q' < q → T q' ≠ i) ∧ q % 3 = l ∧ pr T p (q / 3) w
theorem pr_uniq {T T' : Nat → Nat} {p p' : Nat} (hT : ∀ q, q < p → T' q = T q) (hp : p ≤ p') : ∀ (w w' : List Nat) (i : Nat), pr T p i w → pr T' p' i w' → w = w'
  | [], [], _, _, _ => rfl
  | [], l :: w', i, h, h' => by
    have h1 : i = 0 := h
    have := h'.1
    omega
  | l :: w, [], i, h, h' => by
    have h1 : i = 0 := h'
    have := h.1
    omega
  | l :: w, l' :: w', i, h, h' => by
    obtain ⟨-, q, q1, q2, q3, q4, q5⟩ := h
    obtain ⟨-, r, r1, r2, r3, r4, r5⟩ := h'
    have hqr : q = r := by
      rcases Nat.lt_trichotomy q r with hlt | heq | hgt
      · exact absurd (by rw [hT q q1]; exact q2) (r3 q hlt)
      · exact heq
      · exact absurd (by rw [← hT r (by omega)]; exact r2) (q3 r hgt)
    subst hqr
    rw [← q4, ← r4, pr_uniq hT hp w w' _ q5 r5]
/-- the first end that the search meets, as its text -/
def lsP (nx : Nat → Nat → Nat) (en : Nat → Bool) (k0 : Nat) (o : Option (List Nat)) : Prop := ∃ K T N p, K 0 = k0 ∧ bf nx K T N p ∧ (∀ i, 3 * i < p → i ≤ tM T (3 * i)) ∧ p ≤ 3 * N ∧ ((o = none ∧ p = 3 * N ∧ ∀ i, i < N → en (K i) = false) ∨ ∃ i w, o = some w ∧ i < N ∧ en (K i) = true ∧ (∀ i', i' < i → en (K i') = false) ∧ pr T p i w.reverse)
theorem lsP_le {nx : Nat → Nat → Nat} {en : Nat → Bool} {K K' T T' : Nat → Nat} {N N' p p' : Nat} {o o' : Option (List Nat)} (hp : p ≤ p') (h0 : K 0 = K' 0) (b : bf nx K T N p) (b' : bf nx K' T' N' p') (g : ∀ i, 3 * i < p → i ≤ tM T (3 * i)) (g' : ∀ i, 3 * i < p' → i ≤ tM T' (3 * i)) (c : (o = none ∧ p = 3 * N ∧ ∀ i, i < N → en (K i) = false) ∨ ∃ i w, o = some w ∧ i < N ∧ en (K i) = true ∧ (∀ i', i' < i → en (K i') = false) ∧ pr T p i w.reverse) (c' : (o' = none ∧ p' = 3 * N' ∧ ∀ i, i < N' → en (K' i) = false) ∨ ∃ i w, o' = some w ∧ i < N' ∧ en (K' i) = true ∧ (∀ i', i' < i → en (K' i') = false) ∧ pr T' p' i w.reverse) : o = o' := by
  obtain ⟨e1, e2⟩ := bf_uniq b b' h0 g hp p (Nat.le_refl _)
  have hN := b.2.2.2
  have hN' := b'.2.2.2
  have hc := tM_congr p e1
  have hle : N ≤ N' := by have := tM_mono T' hp; omega
  have hK : ∀ i, i < N → K' i = K i := fun i hi => e2 i (by omega)
  rcases c with ⟨c1, c2, c3⟩ | ⟨i, w, c1, c2, c3, c4, c5⟩
  · rcases c' with ⟨d1, d2, d3⟩ | ⟨j, v, d1, d2, d3, d4, d5⟩
    · rw [c1, d1]
    · exfalso
      by_cases hj : j < N
      · rw [hK j hj, c3 j hj] at d3
        cases d3
      · have hNN : N < N' := by omega
        have hpp : 3 * N < p' := by
          apply Classical.byContradiction
          intro hge
          have : p' = p := by omega
          rw [this, hc] at hN'
          omega
        have := g' N hpp
        rw [← c2, hc] at this
        omega
  · rcases c' with ⟨d1, d2, d3⟩ | ⟨j, v, d1, d2, d3, d4, d5⟩
    · exfalso
      have := d3 i (by omega)
      rw [hK i c2, c3] at this
      cases this
    · have hij : i = j := by
        rcases Nat.lt_trichotomy i j with hlt | heq | hgt
        · have := d4 i hlt
          rw [hK i c2, c3] at this
          cases this
        · exact heq
        · have := c4 j hgt
          rw [← hK j (by omega), d3] at this
          cases this
      subst hij
      have := pr_uniq e1 hp _ _ i c5 d5
      rw [c1, d1, ← List.reverse_reverse w, this, List.reverse_reverse]
theorem lsP_uniq {nx : Nat → Nat → Nat} {en : Nat → Bool} {k0 : Nat} {o o' : Option (List Nat)} (h : lsP nx en k0 o) (h' : lsP nx en k0 o') : o = o' := by
  obtain ⟨K, T, N, p, a1, a2, a3, a4, a5⟩ := h
  obtain ⟨K', T', N', p', b1, b2, b3, b4, b5⟩ := h'
  rcases Nat.le_total p p' with hp | hp
  · exact lsP_le hp (a1.trans b1.symm) a2 b2 a3 b3 a5 b5
  · exact (lsP_le hp (b1.trans a1.symm) b2 a2 b3 a3 b5 a5).symm
section MM
variable (d L : Nat) (g : jG) {I : Nat → Nat → Int32}
theorem r_many_2 {k n : Nat} {A : kA} (hA : mR I k A) : ∀ m r (J : Nat → Nat → Int64), r + m = A.1 → (∀ q, q < r → J 136 q = lN (cnt A 0 q)) → ∃ J', (∀ y, y ≠ 136 → J' y = J y) ∧ (∀ q, q < A.1 → J' 136 q = lN (cnt A 0 q)) ∧ jval (d + 2) 195 2 [.ref 117, .int (nI k), .int (nI n), .int (nI r), jjunk] [] (jGs L g, I, J) = jval (d + 2) 195 39 [.ref 117, .int (nI k), .int (nI n), .int (nI 0), jjunk] [] (jGs L g, I, J') := by
  have h10 := hA.2.1
  intro m
  induction m with
  | zero =>
    intro r J hr h
    have : r = A.1 := by omega
    subst this
    refine ⟨J, fun _ _ => rfl, h, ?_⟩
    rw [e_TextValuesModel_manyOf_2, r_size (d + 1) L g J hA, jcI_some, e_TextValuesModel_manyOf_8, jif_t (nI_le (Nat.le_refl _) (by omega))]
    rfl
  | succ m ih =>
    intro r J hr h
    obtain ⟨J', q1, q2, q3⟩ := ih (r + 1) (ju J 136 r (lN (cnt A 0 r))) (by omega) (fun q hq => by
      by_cases hqr : q = r
      · rw [hqr, zu_at]
      · rw [zu_k hqr]; exact h q (by omega))
    refine ⟨J', fun y hy => (q1 y hy).trans (ju_n hy), q2, ?_⟩
    rw [e_TextValuesModel_manyOf_2, r_size (d + 1) L g J hA, jcI_some, e_TextValuesModel_manyOf_8, jif_f (nI_ge (by omega) (by omega)), r_isEnd d L g J hA (by omega), jcI_some, e_TextValuesModel_manyOf_22, ← q3, show cnt A 0 r = (if A.2.1 r = true then 1 else 0) from rfl]
    cases A.2.1 r
    · rw [jif_t (by decide), e_TextValuesModel_manyOf_30]
      simp (disch := omega) only [li_0, li_1, li_2, li_3, li_4, li_5, li_6, li_7, li_8, li_9, li_10, li_11, li_12, li_13, li_14, li_15, li_16, li_17, li_18, li_19, li_20, li_21, li_22, li_23, li_24, li_25, li_26, li_27, li_28, li_29, li_30, li_31, li_32, li_33, li_34, li_35, li_36, li_37, li_38, li_39, li_40, li_41, li_42, li_43, li_44, li_45, li_46, li_47, li_48, li_49, li_50, li_51, li_52, li_53, li_54, li_55, li_56, li_57, li_58, li_59, li_60, li_61, li_62, li_63, li_64, li_65, li_66, li_67, li_68, li_69, li_70, li_71, li_72, li_73, li_74, li_75, li_76, li_77, li_78, li_79, li_80, li_81, li_82, li_83, li_84, li_85, li_86, li_87, li_88, li_89, li_90, li_91, li_92, li_93, li_94, li_95, li_96, li_97, li_98, li_99, li_100, li_101, li_102, li_103, li_104, li_105, li_106, li_107, li_108, li_109, li_110, li_111, li_112, li_113, li_114, li_115, li_116, li_117, li_118, li_119, li_120, li_121, li_122, li_123, li_124, li_125, li_126, li_127, li_128, li_160, li_219, li_220, li_248, li_249, li_250, li_251, li_255, li_999, li_1000, li_1023, li_1024, li_10240, li_999999, li_1048576, li_1048575, nI_add, nI_mul, zi_div, zi_eq, zi_le, zi_lt, zi_in, zi_c, zi_sub, zi_ofN, zi_m1e, zi_m1e', zi_m1lt, zi_m1le, zi_ltm1, zi_lem1, zi_m1m1, jif_T, jif_F, jif_t, jif_f, zb_1, zb_0, zb_01, zb_ft, zn_01a, zn_01b, zi_tst, zi_pow, cond_true, jcI_some, jcV_some, jcJ_some, Nat.reduceAdd, Nat.reduceMul, Nat.reduceSub, reduceCtorEq, Bool.true_eq_false, Bool.false_eq_true, zb_t, zb_f, Nat.add_zero, Nat.zero_add, Nat.mul_zero, Nat.zero_mul, or_true, true_or, or_false, false_or, and_true, true_and, and_false, false_and, not_true_eq_false, not_false_eq_true, ll_0, ll_1, ↓reduceIte, reduceCtorEq]
    · rw [jif_f (by decide), e_TextValuesModel_manyOf_30]
      simp (disch := omega) only [li_0, li_1, li_2, li_3, li_4, li_5, li_6, li_7, li_8, li_9, li_10, li_11, li_12, li_13, li_14, li_15, li_16, li_17, li_18, li_19, li_20, li_21, li_22, li_23, li_24, li_25, li_26, li_27, li_28, li_29, li_30, li_31, li_32, li_33, li_34, li_35, li_36, li_37, li_38, li_39, li_40, li_41, li_42, li_43, li_44, li_45, li_46, li_47, li_48, li_49, li_50, li_51, li_52, li_53, li_54, li_55, li_56, li_57, li_58, li_59, li_60, li_61, li_62, li_63, li_64, li_65, li_66, li_67, li_68, li_69, li_70, li_71, li_72, li_73, li_74, li_75, li_76, li_77, li_78, li_79, li_80, li_81, li_82, li_83, li_84, li_85, li_86, li_87, li_88, li_89, li_90, li_91, li_92, li_93, li_94, li_95, li_96, li_97, li_98, li_99, li_100, li_101, li_102, li_103, li_104, li_105, li_106, li_107, li_108, li_109, li_110, li_111, li_112, li_113, li_114, li_115, li_116, li_117, li_118, li_119, li_120, li_121, li_122, li_123, li_124, li_125, li_126, li_127, li_128, li_160, li_219, li_220, li_248, li_249, li_250, li_251, li_255, li_999, li_1000, li_1023, li_1024, li_10240, li_999999, li_1048576, li_1048575, nI_add, nI_mul, zi_div, zi_eq, zi_le, zi_lt, zi_in, zi_c, zi_sub, zi_ofN, zi_m1e, zi_m1e', zi_m1lt, zi_m1le, zi_ltm1, zi_lem1, zi_m1m1, jif_T, jif_F, jif_t, jif_f, zb_1, zb_0, zb_01, zb_ft, zn_01a, zn_01b, zi_tst, zi_pow, cond_true, jcI_some, jcV_some, jcJ_some, Nat.reduceAdd, Nat.reduceMul, Nat.reduceSub, reduceCtorEq, Bool.true_eq_false, Bool.false_eq_true, zb_t, zb_f, Nat.add_zero, Nat.zero_add, Nat.mul_zero, Nat.zero_mul, or_true, true_or, or_false, false_or, and_true, true_and, and_false, false_and, not_true_eq_false, not_false_eq_true, ll_0, ll_1, ↓reduceIte, reduceCtorEq]
theorem r_many_47 {k n i : Nat} {A : kA} {x3 : Int32} (hA : mR I k A) : ∀ m r (J : Nat → Nat → Int64), r + m = A.1 → (∀ q, q < A.1 → J 136 q = lN (cnt A i q)) → (∀ q, q < r → J 137 q = lN (cnt A (i + 1) q)) → ∃ J', (∀ y, y ≠ 137 → J' y = J y) ∧ (∀ q, q < A.1 → J' 137 q = lN (cnt A (i + 1) q)) ∧ jval (d + 1) 195 47 [.ref 117, .int (nI k), .int (nI n), .int x3, .int (nI r)] [] (jGs L g, I, J) = jval (d + 1) 195 114 [.ref 117, .int (nI k), .int (nI n), .int x3, .int (nI 0)] [] (jGs L g, I, J') := by
  have h10 := hA.2.1
  have wA := hA.2.2.1
  intro m
  induction m with
  | zero =>
    intro r J hr h1 h2
    have : r = A.1 := by omega
    subst this
    refine ⟨J, fun _ _ => rfl, h2, ?_⟩
    rw [e_TextValuesModel_manyOf_47, r_size d L g J hA, jcI_some, e_TextValuesModel_manyOf_54, jif_t (nI_le (Nat.le_refl _) (by omega))]
    rfl
  | succ m ih =>
    intro r J hr h1 h2
    obtain ⟨J', q1, q2, q3⟩ := ih (r + 1) (ju J 137 r (lN (cnt A (i + 1) r))) (by omega) (fun q hq => by rw [zu_a (by omega)]; exact h1 q hq) (fun q hq => by
      by_cases hqr : q = r
      · rw [hqr, zu_at]
      · rw [zu_k hqr]; exact h2 q (by omega))
    have t0 := wA.2 r (by omega) 0 (by omega)
    have t1 := wA.2 r (by omega) 1 (by omega)
    have t2 := wA.2 r (by omega) 2 (by omega)
    have v0 := h1 _ t0
    have v1 := h1 _ t1
    have v2 := h1 _ t2
    refine ⟨J', fun y hy => (q1 y hy).trans (ju_n hy), q2, ?_⟩
    rw [e_TextValuesModel_manyOf_47, r_size d L g J hA, jcI_some, e_TextValuesModel_manyOf_54, jif_f (nI_ge (by omega) (by omega)), show (0 : Int32) = nI 0 from rfl, r_to d L g J hA (by omega) (by omega), jcI_some, e_TextValuesModel_manyOf_75]
    simp (disch := omega) only [li_0, li_1, li_2, li_3, li_4, li_5, li_6, li_7, li_8, li_9, li_10, li_11, li_12, li_13, li_14, li_15, li_16, li_17, li_18, li_19, li_20, li_21, li_22, li_23, li_24, li_25, li_26, li_27, li_28, li_29, li_30, li_31, li_32, li_33, li_34, li_35, li_36, li_37, li_38, li_39, li_40, li_41, li_42, li_43, li_44, li_45, li_46, li_47, li_48, li_49, li_50, li_51, li_52, li_53, li_54, li_55, li_56, li_57, li_58, li_59, li_60, li_61, li_62, li_63, li_64, li_65, li_66, li_67, li_68, li_69, li_70, li_71, li_72, li_73, li_74, li_75, li_76, li_77, li_78, li_79, li_80, li_81, li_82, li_83, li_84, li_85, li_86, li_87, li_88, li_89, li_90, li_91, li_92, li_93, li_94, li_95, li_96, li_97, li_98, li_99, li_100, li_101, li_102, li_103, li_104, li_105, li_106, li_107, li_108, li_109, li_110, li_111, li_112, li_113, li_114, li_115, li_116, li_117, li_118, li_119, li_120, li_121, li_122, li_123, li_124, li_125, li_126, li_127, li_128, li_160, li_219, li_220, li_248, li_249, li_250, li_251, li_255, li_999, li_1000, li_1023, li_1024, li_10240, li_999999, li_1048576, li_1048575, nI_add, nI_mul, zi_div, zi_eq, zi_le, zi_lt, zi_in, zi_c, zi_sub, zi_ofN, zi_m1e, zi_m1e', zi_m1lt, zi_m1le, zi_ltm1, zi_lem1, zi_m1m1, jif_T, jif_F, jif_t, jif_f, zb_1, zb_0, zb_01, zb_ft, zn_01a, zn_01b, zi_tst, zi_pow, cond_true, jcI_some, jcV_some, jcJ_some, Nat.reduceAdd, Nat.reduceMul, Nat.reduceSub, reduceCtorEq, Bool.true_eq_false, Bool.false_eq_true, zb_t, zb_f, Nat.add_zero, Nat.zero_add, Nat.mul_zero, Nat.zero_mul, or_true, true_or, or_false, false_or, and_true, true_and, and_false, false_and, not_true_eq_false, not_false_eq_true, r_to d L g J hA, v0]
    rw [e_TextValuesModel_manyOf_88]
    simp (disch := omega) only [li_0, li_1, li_2, li_3, li_4, li_5, li_6, li_7, li_8, li_9, li_10, li_11, li_12, li_13, li_14, li_15, li_16, li_17, li_18, li_19, li_20, li_21, li_22, li_23, li_24, li_25, li_26, li_27, li_28, li_29, li_30, li_31, li_32, li_33, li_34, li_35, li_36, li_37, li_38, li_39, li_40, li_41, li_42, li_43, li_44, li_45, li_46, li_47, li_48, li_49, li_50, li_51, li_52, li_53, li_54, li_55, li_56, li_57, li_58, li_59, li_60, li_61, li_62, li_63, li_64, li_65, li_66, li_67, li_68, li_69, li_70, li_71, li_72, li_73, li_74, li_75, li_76, li_77, li_78, li_79, li_80, li_81, li_82, li_83, li_84, li_85, li_86, li_87, li_88, li_89, li_90, li_91, li_92, li_93, li_94, li_95, li_96, li_97, li_98, li_99, li_100, li_101, li_102, li_103, li_104, li_105, li_106, li_107, li_108, li_109, li_110, li_111, li_112, li_113, li_114, li_115, li_116, li_117, li_118, li_119, li_120, li_121, li_122, li_123, li_124, li_125, li_126, li_127, li_128, li_160, li_219, li_220, li_248, li_249, li_250, li_251, li_255, li_999, li_1000, li_1023, li_1024, li_10240, li_999999, li_1048576, li_1048575, nI_add, nI_mul, zi_div, zi_eq, zi_le, zi_lt, zi_in, zi_c, zi_sub, zi_ofN, zi_m1e, zi_m1e', zi_m1lt, zi_m1le, zi_ltm1, zi_lem1, zi_m1m1, jif_T, jif_F, jif_t, jif_f, zb_1, zb_0, zb_01, zb_ft, zn_01a, zn_01b, zi_tst, zi_pow, cond_true, jcI_some, jcV_some, jcJ_some, Nat.reduceAdd, Nat.reduceMul, Nat.reduceSub, reduceCtorEq, Bool.true_eq_false, Bool.false_eq_true, zb_t, zb_f, Nat.add_zero, Nat.zero_add, Nat.mul_zero, Nat.zero_mul, or_true, true_or, or_false, false_or, and_true, true_and, and_false, false_and, not_true_eq_false, not_false_eq_true, r_to d L g J hA, v1, lN_add]
    rw [e_TextValuesModel_manyOf_102]
    simp (disch := omega) only [li_0, li_1, li_2, li_3, li_4, li_5, li_6, li_7, li_8, li_9, li_10, li_11, li_12, li_13, li_14, li_15, li_16, li_17, li_18, li_19, li_20, li_21, li_22, li_23, li_24, li_25, li_26, li_27, li_28, li_29, li_30, li_31, li_32, li_33, li_34, li_35, li_36, li_37, li_38, li_39, li_40, li_41, li_42, li_43, li_44, li_45, li_46, li_47, li_48, li_49, li_50, li_51, li_52, li_53, li_54, li_55, li_56, li_57, li_58, li_59, li_60, li_61, li_62, li_63, li_64, li_65, li_66, li_67, li_68, li_69, li_70, li_71, li_72, li_73, li_74, li_75, li_76, li_77, li_78, li_79, li_80, li_81, li_82, li_83, li_84, li_85, li_86, li_87, li_88, li_89, li_90, li_91, li_92, li_93, li_94, li_95, li_96, li_97, li_98, li_99, li_100, li_101, li_102, li_103, li_104, li_105, li_106, li_107, li_108, li_109, li_110, li_111, li_112, li_113, li_114, li_115, li_116, li_117, li_118, li_119, li_120, li_121, li_122, li_123, li_124, li_125, li_126, li_127, li_128, li_160, li_219, li_220, li_248, li_249, li_250, li_251, li_255, li_999, li_1000, li_1023, li_1024, li_10240, li_999999, li_1048576, li_1048575, nI_add, nI_mul, zi_div, zi_eq, zi_le, zi_lt, zi_in, zi_c, zi_sub, zi_ofN, zi_m1e, zi_m1e', zi_m1lt, zi_m1le, zi_ltm1, zi_lem1, zi_m1m1, jif_T, jif_F, jif_t, jif_f, zb_1, zb_0, zb_01, zb_ft, zn_01a, zn_01b, zi_tst, zi_pow, cond_true, jcI_some, jcV_some, jcJ_some, Nat.reduceAdd, Nat.reduceMul, Nat.reduceSub, reduceCtorEq, Bool.true_eq_false, Bool.false_eq_true, zb_t, zb_f, Nat.add_zero, Nat.zero_add, Nat.mul_zero, Nat.zero_mul, or_true, true_or, or_false, false_or, and_true, true_and, and_false, false_and, not_true_eq_false, not_false_eq_true, v2, lN_add]
    exact q3
theorem r_many_114 {k n i : Nat} {A : kA} {x3 : Nat} (hA : mR I k A) : ∀ m r (J : Nat → Nat → Int64), r + m = A.1 → (∀ q, q < A.1 → J 137 q = lN (cnt A (i + 1) q)) → (∀ q, q < r → J 136 q = lN (cnt A (i + 1) q)) → ∃ J', (∀ y, y ≠ 136 → J' y = J y) ∧ (∀ q, q < A.1 → J' 136 q = lN (cnt A (i + 1) q)) ∧ jval (d + 1) 195 114 [.ref 117, .int (nI k), .int (nI n), .int (nI x3), .int (nI r)] [] (jGs L g, I, J) = jval (d + 1) 195 39 [.ref 117, .int (nI k), .int (nI n), .int (nI (x3 + 1)), jjunk] [] (jGs L g, I, J') := by
  have h10 := hA.2.1
  intro m
  induction m with
  | zero =>
    intro r J hr h1 h2
    have : r = A.1 := by omega
    subst this
    refine ⟨J, fun _ _ => rfl, h2, ?_⟩
    rw [e_TextValuesModel_manyOf_114, r_size d L g J hA, jcI_some, e_TextValuesModel_manyOf_121, jif_t (nI_le (Nat.le_refl _) (by omega)), nI_1]
  | succ m ih =>
    intro r J hr h1 h2
    obtain ⟨J', q1, q2, q3⟩ := ih (r + 1) (ju J 136 r (lN (cnt A (i + 1) r))) (by omega) (fun q hq => by rw [zu_a (by omega)]; exact h1 q hq) (fun q hq => by
      by_cases hqr : q = r
      · rw [hqr, zu_at]
      · rw [zu_k hqr]; exact h2 q (by omega))
    have v := h1 r (by omega)
    refine ⟨J', fun y hy => (q1 y hy).trans (ju_n hy), q2, ?_⟩
    rw [e_TextValuesModel_manyOf_114, r_size d L g J hA, jcI_some, e_TextValuesModel_manyOf_121, jif_f (nI_ge (by omega) (by omega))]
    simp (disch := omega) only [li_0, li_1, li_2, li_3, li_4, li_5, li_6, li_7, li_8, li_9, li_10, li_11, li_12, li_13, li_14, li_15, li_16, li_17, li_18, li_19, li_20, li_21, li_22, li_23, li_24, li_25, li_26, li_27, li_28, li_29, li_30, li_31, li_32, li_33, li_34, li_35, li_36, li_37, li_38, li_39, li_40, li_41, li_42, li_43, li_44, li_45, li_46, li_47, li_48, li_49, li_50, li_51, li_52, li_53, li_54, li_55, li_56, li_57, li_58, li_59, li_60, li_61, li_62, li_63, li_64, li_65, li_66, li_67, li_68, li_69, li_70, li_71, li_72, li_73, li_74, li_75, li_76, li_77, li_78, li_79, li_80, li_81, li_82, li_83, li_84, li_85, li_86, li_87, li_88, li_89, li_90, li_91, li_92, li_93, li_94, li_95, li_96, li_97, li_98, li_99, li_100, li_101, li_102, li_103, li_104, li_105, li_106, li_107, li_108, li_109, li_110, li_111, li_112, li_113, li_114, li_115, li_116, li_117, li_118, li_119, li_120, li_121, li_122, li_123, li_124, li_125, li_126, li_127, li_128, li_160, li_219, li_220, li_248, li_249, li_250, li_251, li_255, li_999, li_1000, li_1023, li_1024, li_10240, li_999999, li_1048576, li_1048575, nI_add, nI_mul, zi_div, zi_eq, zi_le, zi_lt, zi_in, zi_c, zi_sub, zi_ofN, zi_m1e, zi_m1e', zi_m1lt, zi_m1le, zi_ltm1, zi_lem1, zi_m1m1, jif_T, jif_F, jif_t, jif_f, zb_1, zb_0, zb_01, zb_ft, zn_01a, zn_01b, zi_tst, zi_pow, cond_true, jcI_some, jcV_some, jcJ_some, Nat.reduceAdd, Nat.reduceMul, Nat.reduceSub, reduceCtorEq, Bool.true_eq_false, Bool.false_eq_true, zb_t, zb_f, Nat.add_zero, Nat.zero_add, Nat.mul_zero, Nat.zero_mul, or_true, true_or, or_false, false_or, and_true, true_and, and_false, false_and, not_true_eq_false, not_false_eq_true, v]
    exact q3
theorem r_manyOf (J : Nat → Nat → Int64) {k n : Nat} {A : kA} (hA : mR I k A) (hn : n ≤ 20) : ∃ J', (∀ y, y ≠ 136 → y ≠ 137 → J' y = J y) ∧ jcall (d + 3) 195 [.ref 117, .int (nI k), .int (nI n)] (jGs L g, I, J) = some (some (.long (lN (cnt A n 0))), (jGs L g, I, J')) := by
  have h0 := hA.2.2.1.1
  have loop : ∀ m i (J : Nat → Nat → Int64), i + m = n → (∀ q, q < A.1 → J 136 q = lN (cnt A i q)) → ∃ J', (∀ y, y ≠ 136 → y ≠ 137 → J' y = J y) ∧ jval (d + 2) 195 39 [.ref 117, .int (nI k), .int (nI n), .int (nI i), jjunk] [] (jGs L g, I, J) = some (some (.long (lN (cnt A n 0))), (jGs L g, I, J')) := by
    intro m
    induction m with
    | zero =>
      intro i J hi h
      have : i = n := by omega
      subst this
      have hv := h 0 h0
      refine ⟨J, fun _ _ _ => rfl, ?_⟩
      rw [e_TextValuesModel_manyOf_39]
      simp (disch := omega) only [li_0, li_1, li_2, li_3, li_4, li_5, li_6, li_7, li_8, li_9, li_10, li_11, li_12, li_13, li_14, li_15, li_16, li_17, li_18, li_19, li_20, li_21, li_22, li_23, li_24, li_25, li_26, li_27, li_28, li_29, li_30, li_31, li_32, li_33, li_34, li_35, li_36, li_37, li_38, li_39, li_40, li_41, li_42, li_43, li_44, li_45, li_46, li_47, li_48, li_49, li_50, li_51, li_52, li_53, li_54, li_55, li_56, li_57, li_58, li_59, li_60, li_61, li_62, li_63, li_64, li_65, li_66, li_67, li_68, li_69, li_70, li_71, li_72, li_73, li_74, li_75, li_76, li_77, li_78, li_79, li_80, li_81, li_82, li_83, li_84, li_85, li_86, li_87, li_88, li_89, li_90, li_91, li_92, li_93, li_94, li_95, li_96, li_97, li_98, li_99, li_100, li_101, li_102, li_103, li_104, li_105, li_106, li_107, li_108, li_109, li_110, li_111, li_112, li_113, li_114, li_115, li_116, li_117, li_118, li_119, li_120, li_121, li_122, li_123, li_124, li_125, li_126, li_127, li_128, li_160, li_219, li_220, li_248, li_249, li_250, li_251, li_255, li_999, li_1000, li_1023, li_1024, li_10240, li_999999, li_1048576, li_1048575, nI_add, nI_mul, zi_div, zi_eq, zi_le, zi_lt, zi_in, zi_c, zi_sub, zi_ofN, zi_m1e, zi_m1e', zi_m1lt, zi_m1le, zi_ltm1, zi_lem1, zi_m1m1, jif_T, jif_F, jif_t, jif_f, zb_1, zb_0, zb_01, zb_ft, zn_01a, zn_01b, zi_tst, zi_pow, cond_true, jcI_some, jcV_some, jcJ_some, Nat.reduceAdd, Nat.reduceMul, Nat.reduceSub, reduceCtorEq, Bool.true_eq_false, Bool.false_eq_true, zb_t, zb_f, Nat.add_zero, Nat.zero_add, Nat.mul_zero, Nat.zero_mul, or_true, true_or, or_false, false_or, and_true, true_and, and_false, false_and, not_true_eq_false, not_false_eq_true, hv]
    | succ m ih =>
      intro i J hi h
      obtain ⟨J1, a1, a2, a3⟩ := r_many_47 (d + 1) L g (n := n) (x3 := nI i) hA A.1 0 J (by omega) h (fun q hq => absurd hq (by omega))
      obtain ⟨J2, b1, b2, b3⟩ := r_many_114 (d + 1) L g (n := n) (x3 := i) hA A.1 0 J1 (by omega) a2 (fun q hq => absurd hq (by omega))
      obtain ⟨J', q1, q2⟩ := ih (i + 1) J2 (by omega) b2
      refine ⟨J', fun y y1 y2 => by rw [q1 y y1 y2, b1 y y1, a1 y y2], ?_⟩
      rw [e_TextValuesModel_manyOf_39, jif_f (nI_ge (by omega) (by omega)), show (0 : Int32) = nI 0 from rfl, a3, b3]
      exact q2
  obtain ⟨J1, a1, a2, a3⟩ := r_many_2 d L g (n := n) hA A.1 0 J (by omega) (fun q hq => absurd hq (by omega))
  obtain ⟨J', q1, q2⟩ := loop n 0 J1 (by omega) a2
  refine ⟨J', fun y y1 y2 => by rw [q1 y y1 y2, a1 y y1], ?_⟩
  rw [c_TextValuesModel_manyOf, e_TextValuesModel_manyOf_0, show (0 : Int32) = nI 0 from rfl, a3]
  exact q2
end MM

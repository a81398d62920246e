/-! THE CLASS: upTo, smallest -/
set_option maxRecDepth 100000
theorem path_e2 {T : Nat → Nat} {N p : Nat} (h : ∀ i, 0 < i → i < N → ∃ q, q < p ∧ T q = i ∧ (∀ q', q' < q → T q' ≠ i)) (hp : p ≤ 3 * N) (hg : ∀ i, 3 * i < p → i ≤ tM T (3 * i)) (hs : ∀ q, q < p → T q ≤ tM T q + 1) : ∀ i, i < N → ∃ w, pr T p i w ∧ w.length ≤ i ∧ kW w := by
  intro i
  induction i using Nat.strongRecOn with
  | _ i ih =>
    intro hi
    by_cases h0 : i = 0
    · exact ⟨[], h0, by rw [h0]; exact Nat.le_refl _, kW_nil⟩
    · obtain ⟨q, q1, q2, q3⟩ := h i (by omega) hi
      have hlt : q / 3 < i := by
        by_cases hip : 3 * i < p
        · obtain ⟨q', r1, r2⟩ := tM_find (show 0 < i by omega) (3 * i) (fun q hq => hs q (by omega)) (hg i hip)
          have hq : q ≤ q' := by
            apply Classical.byContradiction
            intro hgt
            exact q3 q' (by omega) r2
          omega
        · omega
      obtain ⟨w, w1, w2, w3⟩ := ih (q / 3) hlt (by omega)
      exact ⟨q % 3 :: w, ⟨by omega, q, q1, q2, q3, rfl, w1⟩, by rw [List.length_cons]; omega, kW_cons (by omega) w3⟩
/-- the class's search over pairs: N pairs found, p places looked at -/
def sQ (A B : kA) (K T : Nat → Nat) (N p : Nat) (I : Nat → Nat → Int32) : Prop := bf (nxP A B) K T N p ∧ K 0 = 0 ∧ (∀ i, i < N → vP A B (K i)) ∧ (∀ i, i < N → I 16 i = nI (K i)) ∧ (∀ k, k < 100 → (∀ i, i < N → K i ≠ k) → I 17 k = nI 0) ∧ I 17 0 = nI 101 ∧ (∀ i, 0 < i → i < N → ∃ q, q < p ∧ T q = i ∧ (∀ q', q' < q → T q' ≠ i) ∧ I 17 (K i) = nI (K (q / 3) + 1) ∧ I 18 (K i) = nI (q % 3)) ∧ ∀ i, 3 * i < p → i ≤ tM T (3 * i)
section CC
variable (d L : Nat) (g : jG) {J : Nat → Nat → Int64}
theorem c_upTo_8 {a : Nat} {A : kA} {M mo : Nat} (hM : M = 220) (hmo : mo ≤ 100) : ∀ f n s v t (I : Nat → Nat → Int32), n + f = M → s ≤ n → v < mo + 100 → min t mo = min v mo → cR L g I J a A → a ≠ 14 → (∀ n', n' < n → ∀ x, x < 10 → I 14 (n' * 10 + x) = nI (min (cnt A n' x) 100)) → (∀ m, s ≤ m → m < n → cnt A m 0 = 0) → ∃ I', (∀ y, y ≠ 14 → I' y = I y) ∧ jval (d + 3) 118 8 [.ref 13, .ref a, .int (nI mo), .int (nI v), .int (lst s), .int (nI n), jjunk] [] (jGs L g, I, J) = some (some (.int (nI (min (t + sm A f n) mo))), (jGs L g, I', J)) := by
  intro f
  induction f with
  | zero =>
    intro n s v t I hn hs hv ht hA a14 hw hz
    refine ⟨I, fun _ _ => rfl, ?_⟩
    rw [e_Texts_upTo_8, jif_t (show (220 : Int32) ≤ nI n from nI_le (a := 220) (b := n) (by omega) (by omega)), e_Texts_upTo_75, jmm_min (by omega) (by omega), show sm A 0 n = 0 from rfl, Nat.add_zero, ht]
  | succ f ih =>
    intro n s v t I hn hs hv ht hA a14 hw hz
    have hV := hA.2.1
    have h220 : ¬ (220 : Int32) ≤ nI n := nI_ge (a := n) (b := 220) (by omega) (by omega)
    by_cases h10 : s + 10 ≤ n
    · refine ⟨I, fun _ _ => rfl, ?_⟩
      rw [e_Texts_upTo_8, jif_f h220, lst_sub hs, jif_t (show (10 : Int32) < nI (n - s + 1) from nI_lt (a := 10) (b := n - s + 1) (by omega) (by omega)), e_Texts_upTo_75, jmm_min (by omega) (by omega), sm_0 _ _ (fun m hm => no_more hV h10 hz m (by omega)), Nat.add_zero, ht]
    · by_cases hmv : mo ≤ v
      · refine ⟨I, fun _ _ => rfl, ?_⟩
        rw [e_Texts_upTo_8, jif_f h220, lst_sub hs, jif_f (show ¬ (10 : Int32) < nI (n - s + 1) from nI_nlt (a := 10) (b := n - s + 1) (by omega) (by omega)), jif_t (nI_le hmv (by omega)), e_Texts_upTo_75, jmm_min (by omega) (by omega)]
        rw [show min (t + sm A (f + 1) n) mo = min v mo by omega]
      · obtain ⟨I1, b1, b2, b3⟩ := c_fill (d + 1) L g (show n < 220 by omega) 10 0 I (by omega) hA a14 hw (fun x hx => absurd hx (by omega))
        have hA1 : cR L g I1 J a A := cR_cg L g hA rfl (b1 a a14) rfl
        have hv1 := b2 n (Nat.le_refl _) 0 (by omega)
        rw [Nat.add_zero] at hv1
        have hcf : jcall (d + 3) 120 [.ref 13, .ref a, .int (nI n)] (jGs L g, I, J) = some (none, (jGs L g, I1, J)) := by
          rw [c_Texts_fill, e_Texts_fill_0]
          exact b3
        have e8 : jval (d + 3) 118 8 [.ref 13, .ref a, .int (nI mo), .int (nI v), .int (lst s), .int (nI n), jjunk] [] (jGs L g, I, J) = jval (d + 3) 118 38 [.ref 13, .ref a, .int (nI mo), .int (nI v), .int (lst s), .int (nI n), jjunk] [] (jGs L g, I1, J) := by
          rw [e_Texts_upTo_8, jif_f h220, lst_sub hs, jif_f (show ¬ (10 : Int32) < nI (n - s + 1) from nI_nlt (a := 10) (b := n - s + 1) (by omega) (by omega)), jif_f (nI_ge (by omega) (by omega)), hcf, jcV_some]
        rw [e8, show sm A (f + 1) n = cnt A n 0 + sm A f (n + 1) from rfl, ← Nat.add_assoc]
        have hm2 : min (cnt A n 0) 100 < 2147483648 := by omega
        by_cases hc0 : cnt A n 0 = 0
        · obtain ⟨I2, r1, r2⟩ := ih (n + 1) s v (t + cnt A n 0) I1 (by omega) (by omega) hv (by omega) hA1 a14 (fun n' hn' x hx => b2 n' (by omega) x hx) (fun m m1 m2 => by
            by_cases hmn : m = n
            · rw [hmn]; exact hc0
            · exact hz m m1 (by omega))
          refine ⟨I2, fun y y1 => by rw [r1 y y1, b1 y y1], ?_⟩
          rw [hc0] at hv1
          rw [← r2, e_Texts_upTo_38]
          simp (disch := omega) only [li_0, li_1, li_2, li_3, li_4, li_5, li_6, li_7, li_8, li_9, li_10, li_11, li_12, li_13, li_14, li_15, li_16, li_17, li_18, li_19, li_20, li_21, li_22, li_23, li_24, li_25, li_26, li_27, li_28, li_29, li_30, li_31, li_32, li_33, li_34, li_35, li_36, li_37, li_38, li_39, li_40, li_41, li_42, li_43, li_44, li_45, li_46, li_47, li_48, li_49, li_50, li_51, li_52, li_53, li_54, li_55, li_56, li_57, li_58, li_59, li_60, li_61, li_62, li_63, li_64, li_65, li_66, li_67, li_68, li_69, li_70, li_71, li_72, li_73, li_74, li_75, li_76, li_77, li_78, li_79, li_80, li_81, li_82, li_83, li_84, li_85, li_86, li_87, li_88, li_89, li_90, li_91, li_92, li_93, li_94, li_95, li_96, li_97, li_98, li_99, li_100, li_101, li_102, li_103, li_104, li_105, li_106, li_107, li_108, li_109, li_110, li_111, li_112, li_113, li_114, li_115, li_116, li_117, li_118, li_119, li_120, li_121, li_122, li_123, li_124, li_125, li_126, li_127, li_128, li_160, li_219, li_220, li_248, li_249, li_250, li_251, li_255, li_999, li_1000, li_1023, li_1024, li_10240, li_999999, li_1048576, li_1048575, nI_add, nI_mul, zi_div, zi_eq, zi_le, zi_lt, zi_in, zi_c, zi_sub, zi_ofN, zi_m1e, zi_m1e', zi_m1lt, zi_m1le, zi_ltm1, zi_lem1, zi_m1m1, jif_T, jif_F, jif_t, jif_f, zb_1, zb_0, zb_01, zb_ft, zn_01a, zn_01b, zi_tst, zi_pow, cond_true, jcI_some, jcV_some, jcJ_some, Nat.reduceAdd, Nat.reduceMul, Nat.reduceSub, reduceCtorEq, Bool.true_eq_false, Bool.false_eq_true, zb_t, zb_f, Nat.add_zero, Nat.zero_add, Nat.mul_zero, Nat.zero_mul, or_true, true_or, or_false, false_or, and_true, true_and, and_false, false_and, not_true_eq_false, not_false_eq_true, hv1, Nat.zero_min, Nat.le_refl]
          rw [e_Texts_upTo_67, nI_1]
        · obtain ⟨I2, r1, r2⟩ := ih (n + 1) (n + 1) (v + min (cnt A n 0) 100) (t + cnt A n 0) I1 (by omega) (by omega) (by omega) (by omega) hA1 a14 (fun n' hn' x hx => b2 n' (by omega) x hx) (fun m m1 m2 => by omega)
          refine ⟨I2, fun y y1 => by rw [r1 y y1, b1 y y1], ?_⟩
          have hpos : ¬ min (cnt A n 0) 100 ≤ 0 := by omega
          rw [← r2, e_Texts_upTo_38, lst_s]
          simp (disch := omega) only [li_0, li_1, li_2, li_3, li_4, li_5, li_6, li_7, li_8, li_9, li_10, li_11, li_12, li_13, li_14, li_15, li_16, li_17, li_18, li_19, li_20, li_21, li_22, li_23, li_24, li_25, li_26, li_27, li_28, li_29, li_30, li_31, li_32, li_33, li_34, li_35, li_36, li_37, li_38, li_39, li_40, li_41, li_42, li_43, li_44, li_45, li_46, li_47, li_48, li_49, li_50, li_51, li_52, li_53, li_54, li_55, li_56, li_57, li_58, li_59, li_60, li_61, li_62, li_63, li_64, li_65, li_66, li_67, li_68, li_69, li_70, li_71, li_72, li_73, li_74, li_75, li_76, li_77, li_78, li_79, li_80, li_81, li_82, li_83, li_84, li_85, li_86, li_87, li_88, li_89, li_90, li_91, li_92, li_93, li_94, li_95, li_96, li_97, li_98, li_99, li_100, li_101, li_102, li_103, li_104, li_105, li_106, li_107, li_108, li_109, li_110, li_111, li_112, li_113, li_114, li_115, li_116, li_117, li_118, li_119, li_120, li_121, li_122, li_123, li_124, li_125, li_126, li_127, li_128, li_160, li_219, li_220, li_248, li_249, li_250, li_251, li_255, li_999, li_1000, li_1023, li_1024, li_10240, li_999999, li_1048576, li_1048575, nI_add, nI_mul, zi_div, zi_eq, zi_le, zi_lt, zi_in, zi_c, zi_sub, zi_ofN, zi_m1e, zi_m1e', zi_m1lt, zi_m1le, zi_ltm1, zi_lem1, zi_m1m1, jif_T, jif_F, jif_t, jif_f, zb_1, zb_0, zb_01, zb_ft, zn_01a, zn_01b, zi_tst, zi_pow, cond_true, jcI_some, jcV_some, jcJ_some, Nat.reduceAdd, Nat.reduceMul, Nat.reduceSub, reduceCtorEq, Bool.true_eq_false, Bool.false_eq_true, zb_t, zb_f, Nat.add_zero, Nat.zero_add, Nat.mul_zero, Nat.zero_mul, or_true, true_or, or_false, false_or, and_true, true_and, and_false, false_and, not_true_eq_false, not_false_eq_true, hv1, hpos]
          rw [e_Texts_upTo_67, nI_1]
theorem c_upTo {I : Nat → Nat → Int32} {a mo : Nat} {A : kA} (hA : cR L g I J a A) (hmo : mo ≤ 100) : ∃ I', (∀ y, y ≠ 14 → I' y = I y) ∧ jcall (d + 4) 118 [.ref 13, .ref a, .int (nI mo)] (jGs L g, I, J) = some (some (.int (nI (min (sm A 220 0) mo))), (jGs L g, I', J)) := by
  have a14 : a ≠ 14 := ne_K hA.1 (show gK L g 14 = 14 from rfl) (by omega)
  obtain ⟨I', h1, h2⟩ := c_upTo_8 d L g (J := J) (A := A) (M := 220) rfl hmo 220 0 0 0 0 I rfl (Nat.le_refl _) (by omega) rfl hA a14 (fun n' hn' => absurd hn' (by omega)) (fun m _ hm => absurd hm (by omega))
  refine ⟨I', h1, ?_⟩
  rw [Nat.zero_add] at h2
  rw [← h2, c_Texts_upTo, e_Texts_upTo_0, show lst 0 = (-1 : Int32) by decide]
  rfl
/-- a row of 100 bytes is filled with 0 -/
theorem c_clear_5 {a : Nat} (k : (jGs L g).1 a = 14) (l : (jGs L g).2.1 a = 100) : ∀ m i (I : Nat → Nat → Int32), i + m = 100 → (∀ x, x < i → I a x = nI 0) → ∃ I', (∀ y, y ≠ a → I' y = I y) ∧ (∀ x, x < 100 → I' a x = nI 0) ∧ jval d 279 5 [.ref a, .int (nI 0), .int (nI i), .int (nI 100)] [] (jGs L g, I, J) = some (none, (jGs L g, I', J)) := by
  intro m
  induction m with
  | zero =>
    intro i I hi h
    have : i = 100 := by omega
    subst this
    refine ⟨I, fun _ _ => rfl, h, ?_⟩
    rw [e_Arrays_fill2_5, jif_t (nI_le (Nat.le_refl _) (by omega))]
  | succ m ih =>
    intro i I hi h
    obtain ⟨I', q1, q2, q3⟩ := ih (i + 1) (ju I a i (nI 0)) (by omega) (fun x hx => by
      by_cases hxi : x = i
      · rw [hxi, zu_at]
      · rw [zu_k hxi]; exact h x (by omega))
    refine ⟨I', fun y hy => (q1 y hy).trans (ju_n hy), q2, ?_⟩
    rw [e_Arrays_fill2_5, jif_f (nI_ge (by omega) (by omega)), if_pos k, l, jin_nI (by omega) (by omega), nI_c (by omega), cond_true, nI_1, show (nI 0).toInt8.toInt32 = nI 0 from zi_b (by omega)]
    exact q3
theorem c_clear {a : Nat} {I : Nat → Nat → Int32} (k : (jGs L g).1 a = 14) (l : (jGs L g).2.1 a = 100) : ∃ I', (∀ y, y ≠ a → I' y = I y) ∧ (∀ x, x < 100 → I' a x = nI 0) ∧ jcall (d + 1) 279 [.ref a, .int (nI 0)] (jGs L g, I, J) = some (none, (jGs L g, I', J)) := by
  obtain ⟨I', q1, q2, q3⟩ := c_clear_5 d L g (J := J) k l 100 0 I rfl (fun x hx => absurd hx (by omega))
  refine ⟨I', q1, q2, ?_⟩
  rw [c_Arrays_fill2, e_Arrays_fill2_0, if_pos (by omega), l, ← q3]
  rfl
end CC

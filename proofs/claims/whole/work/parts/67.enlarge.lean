/-! THE CLASS: forget, enlarge -/
set_option maxRecDepth 100000
theorem gK_new {L : Nat} {g : jG} {kd ln n : Nat} (h : 170 ≤ g.2.2.2.1) : gK L (jga g kd ln n) (g.2.2.2.1 + 1) = kd := by
  show (if g.2.2.2.1 + 1 < 171 then jnth jk0s (g.2.2.2.1 + 1) 0 else jup g.1 (g.2.2.2.1 + 1) kd (g.2.2.2.1 + 1)) = kd
  rw [if_neg (by omega), jup_s]
theorem gN_new {L : Nat} {g : jG} {kd ln n : Nat} (h : 170 ≤ g.2.2.2.1) : gN L (jga g kd ln n) (g.2.2.2.1 + 1) = ln := by
  show (if g.2.2.2.1 + 1 = 0 then L else if g.2.2.2.1 + 1 < 171 then jnth jl0s (g.2.2.2.1 + 1) 0 else jup g.2.1 (g.2.2.2.1 + 1) ln (g.2.2.2.1 + 1)) = ln
  rw [if_neg (by omega), if_neg (by omega), jup_s]
theorem gK_old {L : Nat} {g : jG} {kd ln n a : Nat} (h : a ≠ g.2.2.2.1 + 1) : gK L (jga g kd ln n) a = gK L g a := by
  show (if a < 171 then jnth jk0s a 0 else jup g.1 (g.2.2.2.1 + 1) kd a) = (if a < 171 then jnth jk0s a 0 else g.1 a)
  rw [jup_n h]
theorem gN_old {L : Nat} {g : jG} {kd ln n a : Nat} (h : a ≠ g.2.2.2.1 + 1) : gN L (jga g kd ln n) a = gN L g a := by
  show (if a = 0 then L else if a < 171 then jnth jl0s a 0 else jup g.2.1 (g.2.2.2.1 + 1) ln a) = (if a = 0 then L else if a < 171 then jnth jl0s a 0 else g.2.1 a)
  rw [jup_n h]
theorem jga_R {g : jG} {kd ln n a k : Nat} (h : a ≠ g.2.2.2.1 + 1) : (jga g kd ln n).2.2.1 a k = g.2.2.1 a k := by
  show jup g.2.2.1 (g.2.2.2.1 + 1) (fun _ => none) a k = _
  rw [jup_n h]
section CC
variable (d L : Nat) (g : jG)
theorem c_enl_203 {I : Nat → Nat → Int32} {J : Nat → Nat → Int64} {sr c f base i t0 N : Nat} {x2 : Int32} {K p : Nat → Nat} (a3 : g.2.2.1 19 11 = some sr) (k3 : (jGs L g).1 sr = 15) (l3 : (jGs L g).2.1 sr = 2 * 2 ^ c) (hc : c ≤ 14) (hf : f ≤ c) (hf6 : 6 ≤ f) (h12 : I 19 12 = nI base) (hb : base < 1073900000) (hN : N ≤ 2 ^ f) (hT : tbl (I sr) base (2 ^ (f + 1)) N K p (hs (f + 1))) (ht0 : t0 ≤ N) (hbef : ∀ t', t' < t0 → ∃ j, j < N ∧ (hs (f + 1) i + t') % 2 ^ (f + 1) = p j) (hv : ∃ v, v ≤ base ∧ I sr ((hs (f + 1) i + t0) % 2 ^ (f + 1)) = nI v) : ∀ k t, t + k = t0 → jval d 44 203 [.ref 19, .int (nI (2 ^ (f + 1) - 1)), .int x2, .int (nI ((hs (f + 1) i + t) % 2 ^ (f + 1))), .int (nI t)] [] (jGs L g, I, J) = jval d 44 234 [.ref 19, .int (nI (2 ^ (f + 1) - 1)), .int x2, .int (nI ((hs (f + 1) i + t0) % 2 ^ (f + 1))), jjunk] [] (jGs L g, I, J) := by
  have hp1 : 2 ^ 6 ≤ 2 ^ f := Nat.pow_le_pow_right (by omega) hf6
  have hp3 : 2 ^ f ≤ 2 ^ c := Nat.pow_le_pow_right (by omega) hf
  have hp5 : 2 ^ c ≤ 2 ^ 14 := Nat.pow_le_pow_right (by omega) hc
  have hp4 : 2 ^ (f + 1) = 2 * 2 ^ f := by rw [Nat.pow_succ]; omega
  intro k
  induction k with
  | zero =>
    intro t ht
    have : t = t0 := by omega
    subst this
    obtain ⟨v, v1, v2⟩ := hv
    have hx : (hs (f + 1) i + t) % 2 ^ (f + 1) < 2 ^ (f + 1) := Nat.mod_lt _ (by omega)
    generalize (hs (f + 1) i + t) % 2 ^ (f + 1) = x at *
    rw [e_Maker_enlarge_203]
    simp (disch := omega) only [li_0, li_1, li_2, li_3, li_4, li_5, li_6, li_7, li_8, li_9, li_10, li_11, li_12, li_13, li_14, li_15, li_16, li_17, li_18, li_19, li_20, li_21, li_22, li_23, li_24, li_25, li_26, li_27, li_28, li_29, li_30, li_31, li_32, li_33, li_34, li_35, li_36, li_37, li_38, li_39, li_40, li_41, li_42, li_43, li_44, li_45, li_46, li_47, li_48, li_49, li_50, li_51, li_52, li_53, li_54, li_55, li_56, li_57, li_58, li_59, li_60, li_61, li_62, li_63, li_64, li_65, li_66, li_67, li_68, li_69, li_70, li_71, li_72, li_73, li_74, li_75, li_76, li_77, li_78, li_79, li_80, li_81, li_82, li_83, li_84, li_85, li_86, li_87, li_88, li_89, li_90, li_91, li_92, li_93, li_94, li_95, li_96, li_97, li_98, li_99, li_100, li_101, li_102, li_103, li_104, li_105, li_106, li_107, li_108, li_109, li_110, li_111, li_112, li_113, li_114, li_115, li_116, li_117, li_118, li_119, li_120, li_121, li_122, li_123, li_124, li_125, li_126, li_127, li_128, li_160, li_219, li_220, li_248, li_249, li_250, li_251, li_255, li_999, li_1000, li_1023, li_1024, li_10240, li_999999, li_1048576, li_1048575, nI_add, nI_mul, zi_div, zi_eq, zi_le, zi_lt, zi_in, zi_c, zi_sub, zi_ofN, zi_m1e, zi_m1e', zi_m1lt, zi_m1le, zi_ltm1, zi_lem1, zi_m1m1, jif_T, jif_F, jif_t, jif_f, zb_1, zb_0, zb_01, zb_ft, zn_01a, zn_01b, zi_tst, zi_pow, cond_true, jcI_some, jcV_some, jcJ_some, Nat.reduceAdd, Nat.reduceMul, Nat.reduceSub, reduceCtorEq, Bool.true_eq_false, Bool.false_eq_true, zb_t, zb_f, Nat.add_zero, Nat.zero_add, Nat.mul_zero, Nat.zero_mul, or_true, true_or, or_false, false_or, and_true, true_and, and_false, false_and, not_true_eq_false, not_false_eq_true, jo_some, ↓reduceIte, a3, k3, l3, h12, v2]
  | succ k ih =>
    intro t ht
    obtain ⟨j, j1, j2⟩ := hbef t (by omega)
    have hx : (hs (f + 1) i + t) % 2 ^ (f + 1) < 2 ^ (f + 1) := Nat.mod_lt _ (by omega)
    have hsl := (hT.2.1 j j1).2
    have hwr : ((hs (f + 1) i + t) % 2 ^ (f + 1) + 1) % 2 ^ (f + 1) = (hs (f + 1) i + (t + 1)) % 2 ^ (f + 1) := by
      rw [Nat.mod_add_mod]; rfl
    rw [← ih (t + 1) (by omega), ← hwr]
    generalize hxx : (hs (f + 1) i + t) % 2 ^ (f + 1) = x at *
    rw [← j2] at hsl
    rw [← nx_wrap, e_Maker_enlarge_203]
    simp (disch := omega) only [li_0, li_1, li_2, li_3, li_4, li_5, li_6, li_7, li_8, li_9, li_10, li_11, li_12, li_13, li_14, li_15, li_16, li_17, li_18, li_19, li_20, li_21, li_22, li_23, li_24, li_25, li_26, li_27, li_28, li_29, li_30, li_31, li_32, li_33, li_34, li_35, li_36, li_37, li_38, li_39, li_40, li_41, li_42, li_43, li_44, li_45, li_46, li_47, li_48, li_49, li_50, li_51, li_52, li_53, li_54, li_55, li_56, li_57, li_58, li_59, li_60, li_61, li_62, li_63, li_64, li_65, li_66, li_67, li_68, li_69, li_70, li_71, li_72, li_73, li_74, li_75, li_76, li_77, li_78, li_79, li_80, li_81, li_82, li_83, li_84, li_85, li_86, li_87, li_88, li_89, li_90, li_91, li_92, li_93, li_94, li_95, li_96, li_97, li_98, li_99, li_100, li_101, li_102, li_103, li_104, li_105, li_106, li_107, li_108, li_109, li_110, li_111, li_112, li_113, li_114, li_115, li_116, li_117, li_118, li_119, li_120, li_121, li_122, li_123, li_124, li_125, li_126, li_127, li_128, li_160, li_219, li_220, li_248, li_249, li_250, li_251, li_255, li_999, li_1000, li_1023, li_1024, li_10240, li_999999, li_1048576, li_1048575, nI_add, nI_mul, zi_div, zi_eq, zi_le, zi_lt, zi_in, zi_c, zi_sub, zi_ofN, zi_m1e, zi_m1e', zi_m1lt, zi_m1le, zi_ltm1, zi_lem1, zi_m1m1, jif_T, jif_F, jif_t, jif_f, zb_1, zb_0, zb_01, zb_ft, zn_01a, zn_01b, zi_tst, zi_pow, cond_true, jcI_some, jcV_some, jcJ_some, Nat.reduceAdd, Nat.reduceMul, Nat.reduceSub, reduceCtorEq, Bool.true_eq_false, Bool.false_eq_true, zb_t, zb_f, Nat.add_zero, Nat.zero_add, Nat.mul_zero, Nat.zero_mul, or_true, true_or, or_false, false_or, and_true, true_and, and_false, false_and, not_true_eq_false, not_false_eq_true, jo_some, ↓reduceIte, a3, k3, l3, h12, hsl]
theorem c_enl_177 {J : Nat → Nat → Int64} {kr sr c f base N : Nat} {K : Nat → Nat} (a1 : g.2.2.1 19 9 = some kr) (a3 : g.2.2.1 19 11 = some sr) (k1 : (jGs L g).1 kr = 15) (k3 : (jGs L g).1 sr = 15) (l1 : (jGs L g).2.1 kr = 2 ^ c) (l3 : (jGs L g).2.1 sr = 2 * 2 ^ c) (hks : kr ≠ sr) (n3 : 19 ≠ sr) (hc : c ≤ 14) (hf : f ≤ c) (hf6 : 6 ≤ f) (hb : base < 1073900000) (hN : N ≤ 2 ^ f) (hK : ∀ i, i < N → ∀ j, j < N → K i = K j → i = j) : ∀ k i (I : Nat → Nat → Int32) (p : Nat → Nat), i + k = N → I 19 12 = nI base → I 19 7 = nI N → (∀ i, i < N → I kr i = nI (K i)) → tbl (I sr) base (2 ^ (f + 1)) i K p (hs (f + 1)) → (∀ x, x < 2 * 2 ^ c → ∃ v, v ≤ base + i ∧ I sr x = nI v) → ∃ I' p', (∀ a, a ≠ sr → I' a = I a) ∧ tbl (I' sr) base (2 ^ (f + 1)) N K p' (hs (f + 1)) ∧ (∀ x, x < 2 * 2 ^ c → ∃ v, v ≤ base + N ∧ I' sr x = nI v) ∧ jval d 44 177 [.ref 19, .int (nI (2 ^ (f + 1) - 1)), .int (nI i), jjunk, jjunk] [] (jGs L g, I, J) = some (none, (jGs L g, I', J)) := by
  have hp1 : 2 ^ 6 ≤ 2 ^ f := Nat.pow_le_pow_right (by omega) hf6
  have hp3 : 2 ^ f ≤ 2 ^ c := Nat.pow_le_pow_right (by omega) hf
  have hp5 : 2 ^ c ≤ 2 ^ 14 := Nat.pow_le_pow_right (by omega) hc
  have hp4 : 2 ^ (f + 1) = 2 * 2 ^ f := by rw [Nat.pow_succ]; omega
  intro k
  induction k with
  | zero =>
    intro i I p hi h12 h7 hk hT hs'
    have : i = N := by omega
    subst this
    refine ⟨I, p, fun _ _ => rfl, hT, hs', ?_⟩
    rw [e_Maker_enlarge_177]
    simp (disch := omega) only [li_0, li_1, li_2, li_3, li_4, li_5, li_6, li_7, li_8, li_9, li_10, li_11, li_12, li_13, li_14, li_15, li_16, li_17, li_18, li_19, li_20, li_21, li_22, li_23, li_24, li_25, li_26, li_27, li_28, li_29, li_30, li_31, li_32, li_33, li_34, li_35, li_36, li_37, li_38, li_39, li_40, li_41, li_42, li_43, li_44, li_45, li_46, li_47, li_48, li_49, li_50, li_51, li_52, li_53, li_54, li_55, li_56, li_57, li_58, li_59, li_60, li_61, li_62, li_63, li_64, li_65, li_66, li_67, li_68, li_69, li_70, li_71, li_72, li_73, li_74, li_75, li_76, li_77, li_78, li_79, li_80, li_81, li_82, li_83, li_84, li_85, li_86, li_87, li_88, li_89, li_90, li_91, li_92, li_93, li_94, li_95, li_96, li_97, li_98, li_99, li_100, li_101, li_102, li_103, li_104, li_105, li_106, li_107, li_108, li_109, li_110, li_111, li_112, li_113, li_114, li_115, li_116, li_117, li_118, li_119, li_120, li_121, li_122, li_123, li_124, li_125, li_126, li_127, li_128, li_160, li_219, li_220, li_248, li_249, li_250, li_251, li_255, li_999, li_1000, li_1023, li_1024, li_10240, li_999999, li_1048576, li_1048575, nI_add, nI_mul, zi_div, zi_eq, zi_le, zi_lt, zi_in, zi_c, zi_sub, zi_ofN, zi_m1e, zi_m1e', zi_m1lt, zi_m1le, zi_ltm1, zi_lem1, zi_m1m1, jif_T, jif_F, jif_t, jif_f, zb_1, zb_0, zb_01, zb_ft, zn_01a, zn_01b, zi_tst, zi_pow, cond_true, jcI_some, jcV_some, jcJ_some, Nat.reduceAdd, Nat.reduceMul, Nat.reduceSub, reduceCtorEq, Bool.true_eq_false, Bool.false_eq_true, zb_t, zb_f, Nat.add_zero, Nat.zero_add, Nat.mul_zero, Nat.zero_mul, or_true, true_or, or_false, false_or, and_true, true_and, and_false, false_and, not_true_eq_false, not_false_eq_true, h7]
  | succ k ih =>
    intro i I p hi h12 h7 hk hT hs'
    have hki := hk i (by omega)
    obtain ⟨hh1, hh2⟩ := hs_eq (k := f + 1) (by omega) (K i)
    obtain ⟨t0, t1, t2, t3⟩ := tbl_search hT (by omega) (show i < 2 ^ (f + 1) by omega) (K i)
    have hno : ∀ j, j < i → K j ≠ K i := fun j hj e => by have := hK j (by omega) i (by omega) e; omega
    have hbef : ∀ t', t' < t0 → ∃ j, j < i ∧ (hs (f + 1) (K i) + t') % 2 ^ (f + 1) = p j := fun t' ht' => by
      obtain ⟨j, j1, j2, _⟩ := t2 t' ht'
      exact ⟨j, j1, j2⟩
    have hv : ∃ v, v ≤ base ∧ I sr ((hs (f + 1) (K i) + t0) % 2 ^ (f + 1)) = nI v := by
      rcases t3 with ⟨j, j1, j2, _⟩ | ⟨_, h⟩
      · exact absurd j2 (hno j j1)
      · exact h
    have hx : (hs (f + 1) (K i) + t0) % 2 ^ (f + 1) < 2 ^ (f + 1) := Nat.mod_lt _ (by omega)
    have hnew := tbl_new hT (by omega) (by omega) hno hbef hv
    have h203 := c_enl_203 d L g (J := J) (x2 := nI i) a3 k3 l3 hc hf hf6 h12 hb (by omega) hT t1 hbef hv t0 0 (by omega)
    have hz0 : (hs (f + 1) (K i) + 0) % 2 ^ (f + 1) = hs (f + 1) (K i) := by rw [Nat.add_zero]; exact Nat.mod_eq_of_lt hh2
    rw [hz0] at h203
    obtain ⟨I', p', q1, q2, q3, q4⟩ := ih (i + 1) (ju I sr ((hs (f + 1) (K i) + t0) % 2 ^ (f + 1)) (nI (base + 1 + i))) (jup p i ((hs (f + 1) (K i) + t0) % 2 ^ (f + 1))) (by omega) (by rw [zu_a n3]; exact h12) (by rw [zu_a n3]; exact h7) (fun j hj => by rw [zu_a hks]; exact hk j hj) (by
        refine tbl_cg hnew (fun x _ => by rw [ju_s]) (fun j hj => ?_)
        by_cases hji : j = i
        · rw [hji, jup_s]
        · rw [jup_n hji]) (fun x hx' => by
        by_cases hxx : x = (hs (f + 1) (K i) + t0) % 2 ^ (f + 1)
        · rw [hxx, zu_at]; exact ⟨base + 1 + i, by omega, rfl⟩
        · rw [zu_k hxx]
          obtain ⟨v, v1, v2⟩ := hs' x hx'
          exact ⟨v, by omega, v2⟩)
    refine ⟨I', p', fun a ha => (q1 a ha).trans (ju_n ha), q2, q3, ?_⟩
    rw [e_Maker_enlarge_177]
    simp (disch := omega) only [jo_some, ↓reduceIte, a1, k1, l1, h7, hki, zi_le, zi_in, zi_c, jif_F, jif_t, jif_f, cond_true, true_or]
    rw [show (8 : Int32) = nI 8 from rfl, hh1, show (0 : Int32) = nI 0 from rfl, h203, e_Maker_enlarge_234]
    generalize (hs (f + 1) (K i) + t0) % 2 ^ (f + 1) = x at *
    simp (disch := omega) only [li_0, li_1, li_2, li_3, li_4, li_5, li_6, li_7, li_8, li_9, li_10, li_11, li_12, li_13, li_14, li_15, li_16, li_17, li_18, li_19, li_20, li_21, li_22, li_23, li_24, li_25, li_26, li_27, li_28, li_29, li_30, li_31, li_32, li_33, li_34, li_35, li_36, li_37, li_38, li_39, li_40, li_41, li_42, li_43, li_44, li_45, li_46, li_47, li_48, li_49, li_50, li_51, li_52, li_53, li_54, li_55, li_56, li_57, li_58, li_59, li_60, li_61, li_62, li_63, li_64, li_65, li_66, li_67, li_68, li_69, li_70, li_71, li_72, li_73, li_74, li_75, li_76, li_77, li_78, li_79, li_80, li_81, li_82, li_83, li_84, li_85, li_86, li_87, li_88, li_89, li_90, li_91, li_92, li_93, li_94, li_95, li_96, li_97, li_98, li_99, li_100, li_101, li_102, li_103, li_104, li_105, li_106, li_107, li_108, li_109, li_110, li_111, li_112, li_113, li_114, li_115, li_116, li_117, li_118, li_119, li_120, li_121, li_122, li_123, li_124, li_125, li_126, li_127, li_128, li_160, li_219, li_220, li_248, li_249, li_250, li_251, li_255, li_999, li_1000, li_1023, li_1024, li_10240, li_999999, li_1048576, li_1048575, nI_add, nI_mul, zi_div, zi_eq, zi_le, zi_lt, zi_in, zi_c, zi_sub, zi_ofN, zi_m1e, zi_m1e', zi_m1lt, zi_m1le, zi_ltm1, zi_lem1, zi_m1m1, jif_T, jif_F, jif_t, jif_f, zb_1, zb_0, zb_01, zb_ft, zn_01a, zn_01b, zi_tst, zi_pow, cond_true, jcI_some, jcV_some, jcJ_some, Nat.reduceAdd, Nat.reduceMul, Nat.reduceSub, reduceCtorEq, Bool.true_eq_false, Bool.false_eq_true, zb_t, zb_f, Nat.add_zero, Nat.zero_add, Nat.mul_zero, Nat.zero_mul, or_true, true_or, or_false, false_or, and_true, true_and, and_false, false_and, not_true_eq_false, not_false_eq_true, jo_some, ↓reduceIte, a3, k3, l3, h12]
    rw [show base + i + 1 = base + 1 + i by omega]
    exact q4
end CC

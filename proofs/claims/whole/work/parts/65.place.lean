/-! THE CLASS: place -/
set_option maxRecDepth 100000
/-- the maker's rows: keys, rows, slots, group, finer, for 2 ^ c states -/
def mkA (L : Nat) (g : jG) (kr rr sr gr fr c : Nat) : Prop := g.2.2.1 19 9 = some kr ∧ g.2.2.1 19 10 = some rr ∧ g.2.2.1 19 11 = some sr ∧ g.2.2.1 19 13 = some gr ∧ g.2.2.1 19 14 = some fr ∧ gK L g kr = 15 ∧ gK L g rr = 15 ∧ gK L g sr = 15 ∧ gK L g gr = 14 ∧ gK L g fr = 14 ∧ gN L g kr = 2 ^ c ∧ gN L g rr = 4 * 2 ^ c ∧ gN L g sr = 2 * 2 ^ c ∧ gN L g gr = 2 ^ c ∧ gN L g fr = 2 ^ c ∧ kr ≠ rr ∧ kr ≠ sr ∧ rr ≠ sr ∧ gr ≠ fr ∧ kr ≤ g.2.2.2.1 ∧ rr ≤ g.2.2.2.1 ∧ sr ≤ g.2.2.2.1 ∧ gr ≤ g.2.2.2.1 ∧ fr ≤ g.2.2.2.1
theorem ne_K {L : Nat} {g : jG} {a b x y : Nat} (ha : gK L g a = x) (hb : gK L g b = y) (h : x ≠ y) : a ≠ b := fun e => h (by rw [← ha, ← hb, e])
theorem gK_19 (L : Nat) (g : jG) : gK L g 19 = 3 := rfl
/-- the machine that is described: n nodes, their steps, ends E, split, way; limit 2 ^ e, base -/
def mkM (I : Nat → Nat → Int32) (J : Nat → Nat → Int64) (n s m E : Nat) (stp : Nat → Nat) (e base : Nat) : Prop := I 19 4 = nI n ∧ I 19 5 = nI s ∧ I 19 6 = nI m ∧ I 19 8 = nI (2 ^ e) ∧ I 19 12 = nI base ∧ n ≤ 20 ∧ s ≤ 20 ∧ m < 3 ∧ 6 ≤ e ∧ e ≤ 14 ∧ base ≤ 1073741824 + 2 ^ e ∧ (∀ q, q < n → J 20 q = lN (stp q) ∧ stp q < 1152921504606846976) ∧ ∀ q, q < n → J 21 q = lN (sgn E n stp q)
/-- the states that are found: N keys, G signs -/
def mkF (I : Nat → Nat → Int32) (J : Nat → Nat → Int64) (kr rr sr gr : Nat) (n s m E : Nat) (stp : Nat → Nat) (e base N G : Nat) (K p σ ν : Nat → Nat) : Prop := I 19 7 = nI N ∧ I 19 16 = nI G ∧ G ≤ 10 ∧ N ≤ 2 ^ e ∧ (∀ i, i < N → K i < 1048576 ∧ I kr i = nI (K i)) ∧ tbl (I sr) base (2 ^ (e + 1)) N K p (hs (e + 1)) ∧ nmb (fun i => sgK E n s m stp (K i)) N G σ ν ∧ (∀ a, a < G → J 29 a = lN (σ a) ∧ σ a < 8192) ∧ (∀ i, i < N → I gr i = nI (ν i)) ∧ ∀ i, i < N → I rr (4 * i + 3) = nI (if enM n s m (fun q l => sT (stp q) l) E (K i) = true then 1 else 0)
section CC
variable (d L : Nat) (g : jG) {I : Nat → Nat → Int32} {J : Nat → Nat → Int64}
theorem c_place_22 {kr rr sr gr fr c n s m E e base N G y t0 : Nat} {stp K p σ ν : Nat → Nat} (hA : mkA L g kr rr sr gr fr c) (hM : mkM I J n s m E stp e base) (hF : mkF I J kr rr sr gr n s m E stp e base N G K p σ ν) (hec : e ≤ c) (hc : c ≤ 14) (hy : y < 1048576) (ht0 : t0 ≤ N) (hbef : ∀ t', t' < t0 → ∃ j, j < N ∧ (hs (e + 1) y + t') % 2 ^ (e + 1) = p j ∧ K j ≠ y) : ∀ k t (v5 : Value), t + k = t0 → (v5 = jjunk ∨ ∃ z, v5 = .int z) → ∃ v5', (v5' = jjunk ∨ ∃ z, v5' = .int z) ∧ jval d 43 22 [.ref 19, .int (nI y), .int (nI (2 ^ (e + 1) - 1)), .int (nI ((hs (e + 1) y + t) % 2 ^ (e + 1))), .int (nI t), v5, jjunk, jjunk, jjunk, jjunk, jjunk] [] (jGs L g, I, J) = jval d 43 22 [.ref 19, .int (nI y), .int (nI (2 ^ (e + 1) - 1)), .int (nI ((hs (e + 1) y + t0) % 2 ^ (e + 1))), .int (nI t0), v5', jjunk, jjunk, jjunk, jjunk, jjunk] [] (jGs L g, I, J) := by
  obtain ⟨a1, a2, a3, a4, a5, a6, a7, a8, a9, a10, a11, a12, a13, a14, a15, a16, a17, a18, a19, a20, a21, a22, a23, a24⟩ := hA
  obtain ⟨m1, m2, m3, m4, m5, m6, m7, m8, m9, m10, m11, m12, m13⟩ := hM
  obtain ⟨f1, f2, f3, f4, f5, f6, f7, f8, f9, f10⟩ := hF
  have hp1 : 2 ^ 6 ≤ 2 ^ e := Nat.pow_le_pow_right (by omega) m9
  have hp2 : 2 ^ e ≤ 2 ^ 14 := Nat.pow_le_pow_right (by omega) m10
  have hp3 : 2 ^ e ≤ 2 ^ c := Nat.pow_le_pow_right (by omega) hec
  have hp5 : 2 ^ c ≤ 2 ^ 14 := Nat.pow_le_pow_right (by omega) hc
  have hp4 : 2 ^ (e + 1) = 2 * 2 ^ e := by rw [Nat.pow_succ]; omega
  have k1 : (jGs L g).1 kr = 15 := a6
  have k3 : (jGs L g).1 sr = 15 := a8
  have l1 : (jGs L g).2.1 kr = 2 ^ c := a11
  have l3 : (jGs L g).2.1 sr = 2 * 2 ^ c := a13
  intro k
  induction k with
  | zero =>
    intro t v5 ht hv
    have : t = t0 := by omega
    subst this
    exact ⟨v5, hv, rfl⟩
  | succ k ih =>
    intro t v5 ht hv
    obtain ⟨j, j1, j2, j3⟩ := hbef t (by omega)
    have hx : (hs (e + 1) y + t) % 2 ^ (e + 1) < 2 ^ (e + 1) := Nat.mod_lt _ (by omega)
    have hsl := (f6.2.1 j j1).2
    have hkj := f5 j j1
    have hwr : ((hs (e + 1) y + t) % 2 ^ (e + 1) + 1) % 2 ^ (e + 1) = (hs (e + 1) y + (t + 1)) % 2 ^ (e + 1) := by
      rw [Nat.mod_add_mod]; rfl
    obtain ⟨v5', g1, g2⟩ := ih (t + 1) (.int (nI j)) (by omega) (Or.inr ⟨_, rfl⟩)
    refine ⟨v5', g1, ?_⟩
    rw [← g2, ← hwr]
    generalize hxx : (hs (e + 1) y + t) % 2 ^ (e + 1) = x at *
    rw [← j2] at hsl
    rw [← nx_wrap]
    have e1 : base + 1 + j - base - 1 = j := by omega
    rcases hv with hv | ⟨z, hv⟩
    · rw [hv, e_Maker_place_22]
      simp (disch := omega) only [li_0, li_1, li_2, li_3, li_4, li_5, li_6, li_7, li_8, li_9, li_10, li_11, li_12, li_13, li_14, li_15, li_16, li_17, li_18, li_19, li_20, li_21, li_22, li_23, li_24, li_25, li_26, li_27, li_28, li_29, li_30, li_31, li_32, li_33, li_34, li_35, li_36, li_37, li_38, li_39, li_40, li_41, li_42, li_43, li_44, li_45, li_46, li_47, li_48, li_49, li_50, li_51, li_52, li_53, li_54, li_55, li_56, li_57, li_58, li_59, li_60, li_61, li_62, li_63, li_64, li_65, li_66, li_67, li_68, li_69, li_70, li_71, li_72, li_73, li_74, li_75, li_76, li_77, li_78, li_79, li_80, li_81, li_82, li_83, li_84, li_85, li_86, li_87, li_88, li_89, li_90, li_91, li_92, li_93, li_94, li_95, li_96, li_97, li_98, li_99, li_100, li_101, li_102, li_103, li_104, li_105, li_106, li_107, li_108, li_109, li_110, li_111, li_112, li_113, li_114, li_115, li_116, li_117, li_118, li_119, li_120, li_121, li_122, li_123, li_124, li_125, li_126, li_127, li_128, li_160, li_219, li_220, li_248, li_249, li_250, li_251, li_255, li_999, li_1000, li_1023, li_1024, li_10240, li_999999, li_1048576, li_1048575, nI_add, nI_mul, zi_div, zi_eq, zi_le, zi_lt, zi_in, zi_c, zi_sub, zi_ofN, zi_m1e, zi_m1e', zi_m1lt, zi_m1le, zi_ltm1, zi_lem1, zi_m1m1, jif_T, jif_F, jif_t, jif_f, zb_1, zb_0, zb_01, zb_ft, zn_01a, zn_01b, zi_tst, zi_pow, cond_true, jcI_some, jcV_some, jcJ_some, Nat.reduceAdd, Nat.reduceMul, Nat.reduceSub, reduceCtorEq, Bool.true_eq_false, Bool.false_eq_true, zb_t, zb_f, Nat.add_zero, Nat.zero_add, Nat.mul_zero, Nat.zero_mul, or_true, true_or, or_false, false_or, and_true, true_and, and_false, false_and, not_true_eq_false, not_false_eq_true, jo_some, ↓reduceIte, a1, a3, k1, k3, l1, l3, m5, hsl, hkj.2, e1]
    · rw [hv, e_Maker_place_22a]
      simp (disch := omega) only [li_0, li_1, li_2, li_3, li_4, li_5, li_6, li_7, li_8, li_9, li_10, li_11, li_12, li_13, li_14, li_15, li_16, li_17, li_18, li_19, li_20, li_21, li_22, li_23, li_24, li_25, li_26, li_27, li_28, li_29, li_30, li_31, li_32, li_33, li_34, li_35, li_36, li_37, li_38, li_39, li_40, li_41, li_42, li_43, li_44, li_45, li_46, li_47, li_48, li_49, li_50, li_51, li_52, li_53, li_54, li_55, li_56, li_57, li_58, li_59, li_60, li_61, li_62, li_63, li_64, li_65, li_66, li_67, li_68, li_69, li_70, li_71, li_72, li_73, li_74, li_75, li_76, li_77, li_78, li_79, li_80, li_81, li_82, li_83, li_84, li_85, li_86, li_87, li_88, li_89, li_90, li_91, li_92, li_93, li_94, li_95, li_96, li_97, li_98, li_99, li_100, li_101, li_102, li_103, li_104, li_105, li_106, li_107, li_108, li_109, li_110, li_111, li_112, li_113, li_114, li_115, li_116, li_117, li_118, li_119, li_120, li_121, li_122, li_123, li_124, li_125, li_126, li_127, li_128, li_160, li_219, li_220, li_248, li_249, li_250, li_251, li_255, li_999, li_1000, li_1023, li_1024, li_10240, li_999999, li_1048576, li_1048575, nI_add, nI_mul, zi_div, zi_eq, zi_le, zi_lt, zi_in, zi_c, zi_sub, zi_ofN, zi_m1e, zi_m1e', zi_m1lt, zi_m1le, zi_ltm1, zi_lem1, zi_m1m1, jif_T, jif_F, jif_t, jif_f, zb_1, zb_0, zb_01, zb_ft, zn_01a, zn_01b, zi_tst, zi_pow, cond_true, jcI_some, jcV_some, jcJ_some, Nat.reduceAdd, Nat.reduceMul, Nat.reduceSub, reduceCtorEq, Bool.true_eq_false, Bool.false_eq_true, zb_t, zb_f, Nat.add_zero, Nat.zero_add, Nat.mul_zero, Nat.zero_mul, or_true, true_or, or_false, false_or, and_true, true_and, and_false, false_and, not_true_eq_false, not_false_eq_true, jo_some, ↓reduceIte, a1, a3, k1, k3, l1, l3, m5, hsl, hkj.2, e1]
end CC

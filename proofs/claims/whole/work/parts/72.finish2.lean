/-! THE CLASS: finish: the search, whole -/
set_option maxRecDepth 100000
section CC
variable (d L : Nat)
/-- a state's row -/
theorem c_fin_row {g0 g : jG} {I0 I : Nat → Nat → Int32} {J0 J : Nat → Nat → Int64} {PC PQ n s m E k0 e N r a2 : Nat} {stp K T cd : Nat → Nat} {V : Nat → Prop} (hV : vOk n (fun q l => sT (stp q) l) V cd k0) (hsp : kSp n s m (fun q l => sT (stp q) l)) (h : BF L g0 I0 J0 PC PQ n s m E stp V k0 e N (3 * r) K T g I J) (hr : r < N) (hN : N + 3 ≤ 2 ^ e) :
    (kBig (kG (nxM n (fun q l => sT (stp q) l)) (enM n s m (fun q l => sT (stp q) l) E) k0) ∧ ∃ I' J', mkI L g I' PC PQ ∧ fG L g0 g I0 I' J0 J' ∧ jval (d + 1) 42 97 [.ref 19, jjunk, .ref a2, .int (nI 1), .int (nI r), jjunk, jjunk, jjunk, jjunk, jjunk] [] (jGs L g, I, J) = some (some (.int (nI 0)), (jGs L g, I', J'))) ∨
    ∃ N' K' T' I' J', N ≤ N' ∧ (∀ q, q < 3 * r → T' q = T q) ∧ BF L g0 I0 J0 PC PQ n s m E stp V k0 e N' (3 * (r + 1)) K' T' g I' J' ∧ jval (d + 1) 42 97 [.ref 19, jjunk, .ref a2, .int (nI 1), .int (nI r), jjunk, jjunk, jjunk, jjunk, jjunk] [] (jGs L g, I, J) = jval (d + 1) 42 37 [.ref 19, jjunk, .ref a2, .int (nI 1), .int (nI (r + 1)), jjunk, jjunk, jjunk, jjunk, jjunk] [] (jGs L g, I', J') := by
  have hN' := BF_N hV h
  have e97 : jval (d + 1) 42 97 [.ref 19, jjunk, .ref a2, .int (nI 1), .int (nI r), jjunk, jjunk, jjunk, jjunk, jjunk] [] (jGs L g, I, J) = jval (d + 1) 42 160 [.ref 19, jjunk, .ref a2, .int (nI 1), .int (nI r), .long (lN (kNr stp (K r) n)), jjunk, jjunk, .int (nI 0), jjunk] [] (jGs L g, I, J) := by
    obtain ⟨kr, rr, sr, gr, fr, c, base, G, p, σ, ν, hA, hM, hF, b4, b5, b6, b7, b8, b9, b10, b11, b12, b13, b14, b15, b16⟩ := id h
    obtain ⟨m1, m2, m3, m4, m5, m6, m7, m8, m9, m10, m11, m12, m13⟩ := id hM
    have hp3 : 2 ^ e ≤ 2 ^ c := Nat.pow_le_pow_right (by omega) b4
    have hp5 : 2 ^ c ≤ 2 ^ 14 := Nat.pow_le_pow_right (by omega) b5
    have a1 := hA.1
    have k1 : (jGs L g).1 kr = 15 := hA.2.2.2.2.2.1
    have l1 : (jGs L g).2.1 kr = 2 ^ c := hA.2.2.2.2.2.2.2.2.2.2.1
    have hk := hF.2.2.2.2.1 r hr
    have h112 := c_fin_112 (d + 1) L g I J (a2 := a2) (x3 := nI 1) (x4 := nI r) m1 m6 hk.1 (fun q hq => (m12 q hq).1) n 0 (by omega)
    rw [show kNr stp (K r) 0 = 0 from rfl, Nat.pow_zero, Nat.div_one] at h112
    rw [e_Maker_finish_97]
    simp (disch := omega) only [li_0, li_1, li_2, li_3, li_4, li_5, li_6, li_7, li_8, li_9, li_10, li_11, li_12, li_13, li_14, li_15, li_16, li_17, li_18, li_19, li_20, li_21, li_22, li_23, li_24, li_25, li_26, li_27, li_28, li_29, li_30, li_31, li_32, li_33, li_34, li_35, li_36, li_37, li_38, li_39, li_40, li_41, li_42, li_43, li_44, li_45, li_46, li_47, li_48, li_49, li_50, li_51, li_52, li_53, li_54, li_55, li_56, li_57, li_58, li_59, li_60, li_61, li_62, li_63, li_64, li_65, li_66, li_67, li_68, li_69, li_70, li_71, li_72, li_73, li_74, li_75, li_76, li_77, li_78, li_79, li_80, li_81, li_82, li_83, li_84, li_85, li_86, li_87, li_88, li_89, li_90, li_91, li_92, li_93, li_94, li_95, li_96, li_97, li_98, li_99, li_100, li_101, li_102, li_103, li_104, li_105, li_106, li_107, li_108, li_109, li_110, li_111, li_112, li_113, li_114, li_115, li_116, li_117, li_118, li_119, li_120, li_121, li_122, li_123, li_124, li_125, li_126, li_127, li_128, li_160, li_219, li_220, li_248, li_249, li_250, li_251, li_255, li_999, li_1000, li_1023, li_1024, li_10240, li_999999, li_1048576, li_1048575, nI_add, nI_mul, zi_div, zi_eq, zi_le, zi_lt, zi_in, zi_c, zi_sub, zi_ofN, zi_m1e, zi_m1e', zi_m1lt, zi_m1le, zi_ltm1, zi_lem1, zi_m1m1, jif_T, jif_F, jif_t, jif_f, zb_1, zb_0, zb_01, zb_ft, zn_01a, zn_01b, zi_tst, zi_pow, cond_true, jcI_some, jcV_some, jcJ_some, Nat.reduceAdd, Nat.reduceMul, Nat.reduceSub, reduceCtorEq, Bool.true_eq_false, Bool.false_eq_true, zb_t, zb_f, Nat.add_zero, Nat.zero_add, Nat.mul_zero, Nat.zero_mul, or_true, true_or, or_false, false_or, and_true, true_and, and_false, false_and, not_true_eq_false, not_false_eq_true, ll_0, jo_some, ↓reduceIte, a1, k1, l1, hk.2]
    rw [h112, e_Maker_finish_157]
    rfl
  rw [e97]
  rcases c_fin_in d L (a2 := a2) (l := 0) hV hsp h hr (by omega) (by omega) with ⟨w1, I', w2, w3, w4⟩ | ⟨N1, K1, T1, I1, J1, n1, n1', k1, t1, h1, s1⟩
  · exact Or.inl ⟨w1, I', J, w2, w3, w4⟩
  rw [s1, ← k1 r hr]
  rcases c_fin_in d L (a2 := a2) (l := 1) hV hsp h1 (by omega) (by omega) (by omega) with ⟨w1, I', w2, w3, w4⟩ | ⟨N2, K2, T2, I2, J2, n2, n2', k2, t2, h2, s2⟩
  · exact Or.inl ⟨w1, I', J1, w2, w3, w4⟩
  rw [s2, ← k2 r (by omega)]
  rcases c_fin_in d L (a2 := a2) (l := 2) hV hsp h2 (by omega) (by omega) (by omega) with ⟨w1, I', w2, w3, w4⟩ | ⟨N3, K3, T3, I3, J3, n3, n3', k3, t3, h3, s3⟩
  · exact Or.inl ⟨w1, I', J2, w2, w3, w4⟩
  rw [s3]
  refine Or.inr ⟨N3, K3, T3, I3, J3, by omega, fun q hq => by rw [t3 q (by omega), t2 q (by omega), t1 q (by omega)], h3, ?_⟩
  rw [e_Maker_finish_160, jif_f (by decide), jif_t (by decide), e_Maker_finish_220, nI_1]
/-- the search's end: too many, or all keys with their rows -/
theorem c_fin_out {g0 : jG} {I0 : Nat → Nat → Int32} {J0 : Nat → Nat → Int64} {PC PQ n s m E k0 a2 : Nat} {stp cd : Nat → Nat} {V : Nat → Prop} (hV : vOk n (fun q l => sT (stp q) l) V cd k0) (hsp : kSp n s m (fun q l => sT (stp q) l)) : ∀ fu r e N (K T : Nat → Nat) (g : jG) (I : Nat → Nat → Int32) (J : Nat → Nat → Int64), 10240 ≤ r + fu → r ≤ N → BF L g0 I0 J0 PC PQ n s m E stp V k0 e N (3 * r) K T g I J → (∀ i, i < r → i ≤ tM T (3 * i)) →
    (kBig (kG (nxM n (fun q l => sT (stp q) l)) (enM n s m (fun q l => sT (stp q) l) E) k0) ∧ ∃ g' I' J', mkI L g' I' PC PQ ∧ fG L g0 g' I0 I' J0 J' ∧ jval (d + 1) 42 37 [.ref 19, jjunk, .ref a2, .int (nI 1), .int (nI r), jjunk, jjunk, jjunk, jjunk, jjunk] [] (jGs L g, I, J) = some (some (.int (nI 0)), (jGs L g', I', J'))) ∨
    ∃ e' N' K' T' g' I' J', BF L g0 I0 J0 PC PQ n s m E stp V k0 e' N' (3 * N') K' T' g' I' J' ∧ (∀ i, i < N' → i ≤ tM T' (3 * i)) ∧ jval (d + 1) 42 37 [.ref 19, jjunk, .ref a2, .int (nI 1), .int (nI r), jjunk, jjunk, jjunk, jjunk, jjunk] [] (jGs L g, I, J) = jval (d + 1) 42 226 [.ref 19, jjunk, .ref a2, .int (nI 1), jjunk, jjunk, jjunk, jjunk, jjunk, jjunk] [] (jGs L g', I', J') := by
  intro fu
  induction fu with
  | zero =>
    intro r e N K T g I J hfu hrN h hg
    have hN' := BF_N hV h
    have : r = N := by omega
    subst this
    refine Or.inr ⟨e, r, K, T, g, I, J, h, hg, ?_⟩
    obtain ⟨kr, rr, sr, gr, fr, c, base, G, p, σ, ν, hA, hM, hF, -⟩ := id h
    rw [e_Maker_finish_37, jif_f (by decide), hF.1, jif_t (nI_le (Nat.le_refl _) (by omega))]
  | succ fu ih =>
    intro r e N K T g I J hfu hrN h hg
    have hN' := BF_N hV h
    by_cases hr : r = N
    · subst hr
      refine Or.inr ⟨e, r, K, T, g, I, J, h, hg, ?_⟩
      obtain ⟨kr, rr, sr, gr, fr, c, base, G, p, σ, ν, hA, hM, hF, -⟩ := id h
      rw [e_Maker_finish_37, jif_f (by decide), hF.1, jif_t (nI_le (Nat.le_refl _) (by omega))]
    · -- room for three more, then the row
      have hroom : ∃ e1 g1 I1 J1, N + 3 ≤ 2 ^ e1 ∧ BF L g0 I0 J0 PC PQ n s m E stp V k0 e1 N (3 * r) K T g1 I1 J1 ∧ jval (d + 1) 42 37 [.ref 19, jjunk, .ref a2, .int (nI 1), .int (nI r), jjunk, jjunk, jjunk, jjunk, jjunk] [] (jGs L g, I, J) = jval (d + 1) 42 97 [.ref 19, jjunk, .ref a2, .int (nI 1), .int (nI r), jjunk, jjunk, jjunk, jjunk, jjunk] [] (jGs L g1, I1, J1) := by
        obtain ⟨kr, rr, sr, gr, fr, c, base, G, p, σ, ν, hA, hM, hF, b4, b5, b6, b7, b8, b9, b10, b11, b12, b13, b14, b15, b16⟩ := id h
        obtain ⟨m1, m2, m3, m4, m5, m6, m7, m8, m9, m10, m11, m12, m13⟩ := id hM
        have hp2 : 2 ^ e ≤ 2 ^ 14 := Nat.pow_le_pow_right (by omega) m10
        have hp1 : 2 ^ 6 ≤ 2 ^ e := Nat.pow_le_pow_right (by omega) m9
        have f1 := hF.1
        have f4 := hF.2.2.2.1
        have hp4 : 2 ^ (e + 1) = 2 * 2 ^ e := by rw [Nat.pow_succ]; omega
        by_cases hN3 : N + 3 ≤ 2 ^ e
        · refine ⟨e, g, I, J, hN3, h, ?_⟩
          rw [e_Maker_finish_37]
          simp (disch := omega) only [li_0, li_1, li_2, li_3, li_4, li_5, li_6, li_7, li_8, li_9, li_10, li_11, li_12, li_13, li_14, li_15, li_16, li_17, li_18, li_19, li_20, li_21, li_22, li_23, li_24, li_25, li_26, li_27, li_28, li_29, li_30, li_31, li_32, li_33, li_34, li_35, li_36, li_37, li_38, li_39, li_40, li_41, li_42, li_43, li_44, li_45, li_46, li_47, li_48, li_49, li_50, li_51, li_52, li_53, li_54, li_55, li_56, li_57, li_58, li_59, li_60, li_61, li_62, li_63, li_64, li_65, li_66, li_67, li_68, li_69, li_70, li_71, li_72, li_73, li_74, li_75, li_76, li_77, li_78, li_79, li_80, li_81, li_82, li_83, li_84, li_85, li_86, li_87, li_88, li_89, li_90, li_91, li_92, li_93, li_94, li_95, li_96, li_97, li_98, li_99, li_100, li_101, li_102, li_103, li_104, li_105, li_106, li_107, li_108, li_109, li_110, li_111, li_112, li_113, li_114, li_115, li_116, li_117, li_118, li_119, li_120, li_121, li_122, li_123, li_124, li_125, li_126, li_127, li_128, li_160, li_219, li_220, li_248, li_249, li_250, li_251, li_255, li_999, li_1000, li_1023, li_1024, li_10240, li_999999, li_1048576, li_1048575, nI_add, nI_mul, zi_div, zi_eq, zi_le, zi_lt, zi_in, zi_c, zi_sub, zi_ofN, zi_m1e, zi_m1e', zi_m1lt, zi_m1le, zi_ltm1, zi_lem1, zi_m1m1, jif_T, jif_F, jif_t, jif_f, zb_1, zb_0, zb_01, zb_ft, zn_01a, zn_01b, zi_tst, zi_pow, cond_true, jcI_some, jcV_some, jcJ_some, Nat.reduceAdd, Nat.reduceMul, Nat.reduceSub, reduceCtorEq, Bool.true_eq_false, Bool.false_eq_true, zb_t, zb_f, Nat.add_zero, Nat.zero_add, Nat.mul_zero, Nat.zero_mul, or_true, true_or, or_false, false_or, and_true, true_and, and_false, false_and, not_true_eq_false, not_false_eq_true, li_16384, f1, m4]
        · have he13 : e ≤ 13 := by
            apply Classical.byContradiction
            intro hgt
            have : e = 14 := by omega
            subst this
            omega
          have hp6 : 2 ^ e ≤ 2 ^ 13 := Nat.pow_le_pow_right (by omega) he13
          obtain ⟨g1, I1, J1, kr', rr', sr', gr', fr', c', p', q1, q2, q3, q4, q5, q6, q7, q8, q9, q10, q11⟩ := c_enlarge d L hA hM hF b4 b5 he13 b6 b7 (by omega) (by omega)
          refine ⟨e + 1, g1, I1, J1, by omega, ⟨kr', rr', sr', gr', fr', c', base + N, G, p', σ, ν, q1, q6, q7, q2, q3, q8, by have := q10.2.2.2; omega, q4.trans b8, q5.trans b9, b10, b11, fG_trans b12 q10, b13, b14, b15, fun x hx => ?_⟩, ?_⟩
          · have := (b13.2.1 x hx).2.1
            rw [q9 (x / 3) this (x % 3) (by omega)]
            exact b16 x hx
          · rw [e_Maker_finish_37]
            simp (disch := omega) only [li_0, li_1, li_2, li_3, li_4, li_5, li_6, li_7, li_8, li_9, li_10, li_11, li_12, li_13, li_14, li_15, li_16, li_17, li_18, li_19, li_20, li_21, li_22, li_23, li_24, li_25, li_26, li_27, li_28, li_29, li_30, li_31, li_32, li_33, li_34, li_35, li_36, li_37, li_38, li_39, li_40, li_41, li_42, li_43, li_44, li_45, li_46, li_47, li_48, li_49, li_50, li_51, li_52, li_53, li_54, li_55, li_56, li_57, li_58, li_59, li_60, li_61, li_62, li_63, li_64, li_65, li_66, li_67, li_68, li_69, li_70, li_71, li_72, li_73, li_74, li_75, li_76, li_77, li_78, li_79, li_80, li_81, li_82, li_83, li_84, li_85, li_86, li_87, li_88, li_89, li_90, li_91, li_92, li_93, li_94, li_95, li_96, li_97, li_98, li_99, li_100, li_101, li_102, li_103, li_104, li_105, li_106, li_107, li_108, li_109, li_110, li_111, li_112, li_113, li_114, li_115, li_116, li_117, li_118, li_119, li_120, li_121, li_122, li_123, li_124, li_125, li_126, li_127, li_128, li_160, li_219, li_220, li_248, li_249, li_250, li_251, li_255, li_999, li_1000, li_1023, li_1024, li_10240, li_999999, li_1048576, li_1048575, nI_add, nI_mul, zi_div, zi_eq, zi_le, zi_lt, zi_in, zi_c, zi_sub, zi_ofN, zi_m1e, zi_m1e', zi_m1lt, zi_m1le, zi_ltm1, zi_lem1, zi_m1m1, jif_T, jif_F, jif_t, jif_f, zb_1, zb_0, zb_01, zb_ft, zn_01a, zn_01b, zi_tst, zi_pow, cond_true, jcI_some, jcV_some, jcJ_some, Nat.reduceAdd, Nat.reduceMul, Nat.reduceSub, reduceCtorEq, Bool.true_eq_false, Bool.false_eq_true, zb_t, zb_f, Nat.add_zero, Nat.zero_add, Nat.mul_zero, Nat.zero_mul, or_true, true_or, or_false, false_or, and_true, true_and, and_false, false_and, not_true_eq_false, not_false_eq_true, li_16384, f1, m4]
            rw [e_Maker_finish_88, jif_f (by decide), q11, jcV_some]
      obtain ⟨e1, g1, I1, J1, r1, r2, r3⟩ := hroom
      rw [r3]
      rcases c_fin_row d L (a2 := a2) hV hsp r2 (by omega) r1 with ⟨w1, I', J', w2, w3, w4⟩ | ⟨N', K', T', I', J', n1, t1, h1, s1⟩
      · exact Or.inl ⟨w1, g1, I', J', w2, w3, w4⟩
      · rw [s1]
        have hb : bf (nxM n (fun q l => sT (stp q) l)) K T N (3 * r) := by
          obtain ⟨kr, rr, sr, gr, fr, c, base, G, p, σ, ν, hA, hM, hF, b4, b5, b6, b7, b8, b9, b10, b11, b12, b13, b14, b15, b16⟩ := h
          exact b13
        have hrr : r ≤ tM T (3 * r) := by have := hb.2.2.2; omega
        exact ih (r + 1) e1 N' K' T' g1 I' J' (by omega) (by omega) h1 (fun i hi => by
          rw [tM_congr (3 * i) (fun q hq => t1 q (by omega))]
          by_cases hir : i = r
          · subst hir; exact hrr
          · exact hg i (by omega))
end CC

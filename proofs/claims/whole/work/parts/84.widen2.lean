/-! THE CLASS: widen, whole -/
set_option maxRecDepth 100000
section CC
variable (d L : Nat) (g : jG)
theorem c_short {I : Nat → Nat → Int32} {J : Nat → Nat → Int64} {a r w : Nat} {A : kA} (hA : cR L g I J a A) (hr : r < A.1) (hw : w < 2) : jcall (d + 2) 38 [.ref a, .int (nI r), .int (nI w)] (jGs L g, I, J) = some (some (.int (nI (kdN A w r))), (jGs L g, I, J)) := by
  have hV := hA.2.1
  have wA := hV.1.1
  have hA10 := hV.2.1
  have k1 : (jGs L g).1 a = 2 := hA.1
  have start : jcall (d + 2) 38 [.ref a, .int (nI r), .int (nI w)] (jGs L g, I, J) = jval (d + 1) 38 17 [.ref a, .int (nI r), .int (nI w), .int (nI (kdo A r 0)), .int (nI 0)] [] (jGs L g, I, J) := by
    rw [c_Maker_shortTexts, e_Maker_shortTexts_0, if_pos k1, c_isEnd d L g hA (by omega), jcI_some, e_Maker_shortTexts_5]
    show _ = jval (d + 1) 38 17 [.ref a, .int (nI r), .int (nI w), .int (nI (if A.2.1 r = true then 1 else 0)), .int (nI 0)] [] (jGs L g, I, J)
    cases A.2.1 r
    · rw [jif_t (by decide), e_Maker_shortTexts_13, if_neg (by decide)]
      rfl
    · rw [jif_f (by decide), e_Maker_shortTexts_13, if_pos rfl]
      rfl
  rw [start]
  unfold kdN
  by_cases hw0 : w = 0
  · subst hw0
    rw [if_pos rfl, e_Maker_shortTexts_17, jif_f (by decide), jif_t (by decide), e_Maker_shortTexts_54]
  · rw [if_neg hw0]
    have hw1 : w = 1 := by omega
    subst hw1
    have loop : ∀ k l, l + k = 3 → jval (d + 1) 38 17 [.ref a, .int (nI r), .int (nI 1), .int (nI (kdo A r l)), .int (nI l)] [] (jGs L g, I, J) = some (some (.int (nI (kdo A r 3))), (jGs L g, I, J)) := by
      intro k
      induction k with
      | zero =>
        intro l hl
        have : l = 3 := by omega
        subst this
        rw [e_Maker_shortTexts_17, jif_t (by decide), e_Maker_shortTexts_54]
      | succ k ih =>
        intro l hl
        have hl3 : l < 3 := by omega
        have ht := wA.2 r hr l hl3
        have hn := ih (l + 1) (by omega)
        rw [show kdo A r (l + 1) = kdo A r l ||| (if A.2.1 (A.2.2 r l) = true then 2 ^ (l + 1) else 0) from rfl] at hn
        have hp : (2 : Int32) <<< (nI l &&& 31) = nI (2 ^ (l + 1)) := by
          have h : l = 0 ∨ l = 1 ∨ l = 2 := by omega
          rcases h with e | e | e <;> subst e <;> decide
        rw [e_Maker_shortTexts_17, jif_f (show ¬ (3 : Int32) ≤ nI l from nI_ge (a := l) (b := 3) hl3 (by omega)), jif_f (by decide), if_pos k1, c_to d L g hA (by omega) hl3, jcI_some, e_Maker_shortTexts_35, if_pos k1, c_isEnd d L g hA (by omega), jcI_some, e_Maker_shortTexts_38]
        cases he : A.2.1 (A.2.2 r l)
        · rw [he, if_neg (by decide), Nat.or_zero] at hn
          rw [jif_t (by decide), e_Maker_shortTexts_48, nI_1]
          exact hn
        · rw [he, if_pos rfl] at hn
          rw [jif_f (by decide), e_Maker_shortTexts_48, nI_1, hp, zi_or]
          exact hn
    exact loop 3 0 (by omega)
theorem c_wid_37 {I : Nat → Nat → Int32} {J : Nat → Nat → Int64} {a out G z a0 : Nat} {σ : Nat → Nat} {x2 x5 x6 : Int32} (hG : G ≤ 10) (hz : z < 16) (hσ : ∀ y, y < G → J 29 y = lN (σ y) ∧ σ y < 16) (ha0 : a0 ≤ G) (hne : ∀ b, b < a0 → σ b ≠ z) (hat : a0 < G → σ a0 = z) : ∀ k y, y + k = a0 → jval d 37 37 [.ref 19, .ref a, .int x2, .ref out, .int (nI G), .int x5, .int x6, .int (nI z), .int (nI y)] [] (jGs L g, I, J) = jval d 37 64 [.ref 19, .ref a, .int x2, .ref out, .int (nI G), .int x5, .int x6, .int (nI z), .int (nI a0)] [] (jGs L g, I, J) := by
  intro k
  induction k with
  | zero =>
    intro y hy
    have : y = a0 := by omega
    subst this
    rw [e_Maker_widen_37]
    by_cases h : y < G
    · have h1 := hσ y h
      have h2 := hat h
      have h3 := h1.1
      rw [h2] at h3
      simp (disch := omega) only [li_0, li_1, li_2, li_3, li_4, li_5, li_6, li_7, li_8, li_9, li_10, li_11, li_12, li_13, li_14, li_15, li_16, li_17, li_18, li_19, li_20, li_21, li_22, li_23, li_24, li_25, li_26, li_27, li_28, li_29, li_30, li_31, li_32, li_33, li_34, li_35, li_36, li_37, li_38, li_39, li_40, li_41, li_42, li_43, li_44, li_45, li_46, li_47, li_48, li_49, li_50, li_51, li_52, li_53, li_54, li_55, li_56, li_57, li_58, li_59, li_60, li_61, li_62, li_63, li_64, li_65, li_66, li_67, li_68, li_69, li_70, li_71, li_72, li_73, li_74, li_75, li_76, li_77, li_78, li_79, li_80, li_81, li_82, li_83, li_84, li_85, li_86, li_87, li_88, li_89, li_90, li_91, li_92, li_93, li_94, li_95, li_96, li_97, li_98, li_99, li_100, li_101, li_102, li_103, li_104, li_105, li_106, li_107, li_108, li_109, li_110, li_111, li_112, li_113, li_114, li_115, li_116, li_117, li_118, li_119, li_120, li_121, li_122, li_123, li_124, li_125, li_126, li_127, li_128, li_160, li_219, li_220, li_248, li_249, li_250, li_251, li_255, li_999, li_1000, li_1023, li_1024, li_10240, li_999999, li_1048576, li_1048575, nI_add, nI_mul, zi_div, zi_eq, zi_le, zi_lt, zi_in, zi_c, zi_sub, zi_ofN, zi_m1e, zi_m1e', zi_m1lt, zi_m1le, zi_ltm1, zi_lem1, zi_m1m1, jif_T, jif_F, jif_t, jif_f, zb_1, zb_0, zb_01, zb_ft, zn_01a, zn_01b, zi_tst, zi_pow, cond_true, jcI_some, jcV_some, jcJ_some, Nat.reduceAdd, Nat.reduceMul, Nat.reduceSub, reduceCtorEq, Bool.true_eq_false, Bool.false_eq_true, zb_t, zb_f, Nat.add_zero, Nat.zero_add, Nat.mul_zero, Nat.zero_mul, or_true, true_or, or_false, false_or, and_true, true_and, and_false, false_and, not_true_eq_false, not_false_eq_true, zl_and, zl_or, zl_dif, zl_shl, zl_srl, zl_i, zl_w, zl_cmp, zi_b, zi_and, zi_or, zi_sru, jo_some, jo_none, ll_0, ll_1, ll_1048575, ll_1118481, li_16384, li_1073741824, ↓reduceIte, h3]
    · simp (disch := omega) only [li_0, li_1, li_2, li_3, li_4, li_5, li_6, li_7, li_8, li_9, li_10, li_11, li_12, li_13, li_14, li_15, li_16, li_17, li_18, li_19, li_20, li_21, li_22, li_23, li_24, li_25, li_26, li_27, li_28, li_29, li_30, li_31, li_32, li_33, li_34, li_35, li_36, li_37, li_38, li_39, li_40, li_41, li_42, li_43, li_44, li_45, li_46, li_47, li_48, li_49, li_50, li_51, li_52, li_53, li_54, li_55, li_56, li_57, li_58, li_59, li_60, li_61, li_62, li_63, li_64, li_65, li_66, li_67, li_68, li_69, li_70, li_71, li_72, li_73, li_74, li_75, li_76, li_77, li_78, li_79, li_80, li_81, li_82, li_83, li_84, li_85, li_86, li_87, li_88, li_89, li_90, li_91, li_92, li_93, li_94, li_95, li_96, li_97, li_98, li_99, li_100, li_101, li_102, li_103, li_104, li_105, li_106, li_107, li_108, li_109, li_110, li_111, li_112, li_113, li_114, li_115, li_116, li_117, li_118, li_119, li_120, li_121, li_122, li_123, li_124, li_125, li_126, li_127, li_128, li_160, li_219, li_220, li_248, li_249, li_250, li_251, li_255, li_999, li_1000, li_1023, li_1024, li_10240, li_999999, li_1048576, li_1048575, nI_add, nI_mul, zi_div, zi_eq, zi_le, zi_lt, zi_in, zi_c, zi_sub, zi_ofN, zi_m1e, zi_m1e', zi_m1lt, zi_m1le, zi_ltm1, zi_lem1, zi_m1m1, jif_T, jif_F, jif_t, jif_f, zb_1, zb_0, zb_01, zb_ft, zn_01a, zn_01b, zi_tst, zi_pow, cond_true, jcI_some, jcV_some, jcJ_some, Nat.reduceAdd, Nat.reduceMul, Nat.reduceSub, reduceCtorEq, Bool.true_eq_false, Bool.false_eq_true, zb_t, zb_f, Nat.add_zero, Nat.zero_add, Nat.mul_zero, Nat.zero_mul, or_true, true_or, or_false, false_or, and_true, true_and, and_false, false_and, not_true_eq_false, not_false_eq_true, zl_and, zl_or, zl_dif, zl_shl, zl_srl, zl_i, zl_w, zl_cmp, zi_b, zi_and, zi_or, zi_sru, jo_some, jo_none, ll_0, ll_1, ll_1048575, ll_1118481, li_16384, li_1073741824, ↓reduceIte]
  | succ k ih =>
    intro y hy
    have h1 := hσ y (by omega)
    have h2 := hne y (by omega)
    have h3 := h1.2
    rw [e_Maker_widen_37]
    simp (disch := omega) only [li_0, li_1, li_2, li_3, li_4, li_5, li_6, li_7, li_8, li_9, li_10, li_11, li_12, li_13, li_14, li_15, li_16, li_17, li_18, li_19, li_20, li_21, li_22, li_23, li_24, li_25, li_26, li_27, li_28, li_29, li_30, li_31, li_32, li_33, li_34, li_35, li_36, li_37, li_38, li_39, li_40, li_41, li_42, li_43, li_44, li_45, li_46, li_47, li_48, li_49, li_50, li_51, li_52, li_53, li_54, li_55, li_56, li_57, li_58, li_59, li_60, li_61, li_62, li_63, li_64, li_65, li_66, li_67, li_68, li_69, li_70, li_71, li_72, li_73, li_74, li_75, li_76, li_77, li_78, li_79, li_80, li_81, li_82, li_83, li_84, li_85, li_86, li_87, li_88, li_89, li_90, li_91, li_92, li_93, li_94, li_95, li_96, li_97, li_98, li_99, li_100, li_101, li_102, li_103, li_104, li_105, li_106, li_107, li_108, li_109, li_110, li_111, li_112, li_113, li_114, li_115, li_116, li_117, li_118, li_119, li_120, li_121, li_122, li_123, li_124, li_125, li_126, li_127, li_128, li_160, li_219, li_220, li_248, li_249, li_250, li_251, li_255, li_999, li_1000, li_1023, li_1024, li_10240, li_999999, li_1048576, li_1048575, nI_add, nI_mul, zi_div, zi_eq, zi_le, zi_lt, zi_in, zi_c, zi_sub, zi_ofN, zi_m1e, zi_m1e', zi_m1lt, zi_m1le, zi_ltm1, zi_lem1, zi_m1m1, jif_T, jif_F, jif_t, jif_f, zb_1, zb_0, zb_01, zb_ft, zn_01a, zn_01b, zi_tst, zi_pow, cond_true, jcI_some, jcV_some, jcJ_some, Nat.reduceAdd, Nat.reduceMul, Nat.reduceSub, reduceCtorEq, Bool.true_eq_false, Bool.false_eq_true, zb_t, zb_f, Nat.add_zero, Nat.zero_add, Nat.mul_zero, Nat.zero_mul, or_true, true_or, or_false, false_or, and_true, true_and, and_false, false_and, not_true_eq_false, not_false_eq_true, zl_and, zl_or, zl_dif, zl_shl, zl_srl, zl_i, zl_w, zl_cmp, zi_b, zi_and, zi_or, zi_sru, jo_some, jo_none, ll_0, ll_1, ll_1048575, ll_1118481, li_16384, li_1073741824, ↓reduceIte, h1.1, h2]
    exact ih (y + 1) (by omega)
/-- the first half: the kinds of the states -/
theorem c_wid_9 {a out w gr c : Nat} {A : kA} (hV : kV A) (hw : w < 2) (r1 : g.2.2.1 19 13 = some gr) (kg : (jGs L g).1 gr = 14) (lg : (jGs L g).2.1 gr = 2 ^ c) (hc : c ≤ 14) (hc6 : 6 ≤ c) : ∀ k r G (σ ν : Nat → Nat) (I : Nat → Nat → Int32) (J : Nat → Nat → Int64), r + k = A.1 → cR L g I J a A → nmb (kdN A w) r G σ ν → G ≤ r → (∀ y, y < G → J 29 y = lN (σ y) ∧ σ y < 16) → (∀ i, i < r → I gr i = nI (ν i)) → ∃ G' σ' ν' I' J', (∀ x, x ≠ gr → I' x = I x) ∧ (∀ y, y ≠ 29 → J' y = J y) ∧ nmb (kdN A w) A.1 G' σ' ν' ∧ G' ≤ A.1 ∧ (∀ i, i < A.1 → I' gr i = nI (ν' i)) ∧ jval (d + 2) 37 9 [.ref 19, .ref a, .int (nI w), .ref out, .int (nI G), .int (nI (eW A ν r)), .int (nI r), jjunk, jjunk] [] (jGs L g, I, J) = jval (d + 2) 37 119 [.ref 19, .ref a, jjunk, .ref out, .int (nI G'), .int (nI (eW A ν' A.1)), jjunk, jjunk, jjunk] [] (jGs L g, I', J') := by
  have hA10 := hV.2.1
  have hp5 : 2 ^ c ≤ 2 ^ 14 := Nat.pow_le_pow_right (by omega) hc
  have hp6 : 2 ^ 6 ≤ 2 ^ c := Nat.pow_le_pow_right (by omega) hc6
  intro k
  induction k with
  | zero =>
    intro r G σ ν I J hr hA hn hG hσ hg
    have : r = A.1 := by omega
    subst this
    have k1 : (jGs L g).1 a = 2 := hA.1
    refine ⟨G, σ, ν, I, J, fun _ _ => rfl, fun _ _ => rfl, hn, hG, hg, ?_⟩
    rw [e_Maker_widen_9, if_pos k1, hA.2.2.2.2.2, jif_t (nI_le (Nat.le_refl _) (by omega))]
  | succ k ih =>
    intro r G σ ν I J hr hA hn hG hσ hg
    have k1 : (jGs L g).1 a = 2 := hA.1
    have hz := kdN_lt A w r
    have hag : a ≠ gr := ne_K hA.1 kg (by omega)
    have ha29 := (kR20 hA.1).2.2.2.2.2
    have start : jval (d + 2) 37 9 [.ref 19, .ref a, .int (nI w), .ref out, .int (nI G), .int (nI (eW A ν r)), .int (nI r), jjunk, jjunk] [] (jGs L g, I, J) = jval (d + 2) 37 37 [.ref 19, .ref a, .int (nI w), .ref out, .int (nI G), .int (nI (eW A ν r)), .int (nI r), .int (nI (kdN A w r)), .int (nI 0)] [] (jGs L g, I, J) := by
      rw [e_Maker_widen_9, if_pos k1, hA.2.2.2.2.2, jif_f (nI_ge (by omega) (by omega)), jif_f (show ¬ (10 : Int32) ≤ nI r from nI_ge (a := r) (b := 10) (by omega) (by omega)), c_short d L g hA (by omega) hw, jcI_some, e_Maker_widen_32]
      rfl
    have hb0 : kdN A w r &&& 1 = (if A.2.1 r = true then 1 else 0) := by
      have h := zn_b1 (kdN A w r) 0
      rw [Nat.pow_zero, Nat.div_one] at h
      rw [h]
      have h2 : (kdN A w r).testBit 0 = A.2.1 r := by
        unfold kdN
        split
        · exact kdo_bit0 A r 0
        · exact kdo_bit0 A r 3
      rw [h2]
    have hb1 : nI (kdN A w r) &&& nI 1 = nI (if A.2.1 r = true then 1 else 0) := by rw [nx_and, hb0]
    have cont : ∀ (y G1 : Nat) (σ1 : Nat → Nat) (J1 : Nat → Nat → Int64), y < 10 → G1 ≤ r + 1 → (∀ b, b ≠ 29 → J1 b = J b) → (∀ x, x < G1 → J1 29 x = lN (σ1 x) ∧ σ1 x < 16) → nmb (kdN A w) (r + 1) G1 σ1 (jup ν r y) → ∃ G' σ' ν' I' J', (∀ x, x ≠ gr → I' x = I x) ∧ (∀ y, y ≠ 29 → J' y = J y) ∧ nmb (kdN A w) A.1 G' σ' ν' ∧ G' ≤ A.1 ∧ (∀ i, i < A.1 → I' gr i = nI (ν' i)) ∧ jval (d + 2) 37 91 [.ref 19, .ref a, .int (nI w), .ref out, .int (nI G1), .int (nI (eW A ν r)), .int (nI r), .int (nI (kdN A w r)), .int (nI y)] [] (jGs L g, I, J1) = jval (d + 2) 37 119 [.ref 19, .ref a, jjunk, .ref out, .int (nI G'), .int (nI (eW A ν' A.1)), jjunk, jjunk, jjunk] [] (jGs L g, I', J') := by
      intro y G1 σ1 J1 hy hG1 p1 p2 p3
      obtain ⟨G', σ', ν', I', J', q1, q2, q3, q4, q5, q6⟩ := ih (r + 1) G1 σ1 (jup ν r y) (ju I gr r (nI y)) J1 (by omega) (cR_cg L g hA rfl (ju_n hag) (p1 a ha29)) p3 hG1 p2 (fun i hi => by
        by_cases hir : i = r
        · rw [hir, zu_at, jup_s]
        · rw [zu_k hir, jup_n hir]; exact hg i (by omega))
      refine ⟨G', σ', ν', I', J', fun x hx => (q1 x hx).trans (ju_n hx), fun x hx => (q2 x hx).trans (p1 x hx), q3, q4, q5, ?_⟩
      have hE : eW A (jup ν r y) (r + 1) = eW A ν r ||| (if A.2.1 r = true then 1 else 0) * 2 ^ y := by
        show eW A (jup ν r y) r ||| (if A.2.1 r = true then 2 ^ jup ν r y r else 0) = _
        have hcg : ∀ n, n ≤ r → eW A (jup ν r y) n = eW A ν n := by
          intro n
          induction n with
          | zero => intro _; rfl
          | succ n ihn =>
            intro hnr
            show eW A (jup ν r y) n ||| (if A.2.1 n = true then 2 ^ jup ν r y n else 0) = eW A ν n ||| (if A.2.1 n = true then 2 ^ ν n else 0)
            rw [ihn (by omega), jup_n (by omega)]
        rw [hcg r (Nat.le_refl _), jup_s]
        split
        · rw [Nat.one_mul]
        · rw [Nat.zero_mul]
      have hsh : (if A.2.1 r = true then 1 else 0) * 2 ^ y < 4294967296 := by
        have : 2 ^ y ≤ 2 ^ 10 := Nat.pow_le_pow_right (by omega) (by omega)
        split <;> omega
      have hsh2 : nI (if A.2.1 r = true then 1 else 0) <<< (nI y &&& nI 31) = nI ((if A.2.1 r = true then 1 else 0) * 2 ^ y) := zi_shl (by omega) hsh
      rw [e_Maker_widen_91]
      simp (disch := omega) only [li_0, li_1, li_2, li_3, li_4, li_5, li_6, li_7, li_8, li_9, li_10, li_11, li_12, li_13, li_14, li_15, li_16, li_17, li_18, li_19, li_20, li_21, li_22, li_23, li_24, li_25, li_26, li_27, li_28, li_29, li_30, li_31, li_32, li_33, li_34, li_35, li_36, li_37, li_38, li_39, li_40, li_41, li_42, li_43, li_44, li_45, li_46, li_47, li_48, li_49, li_50, li_51, li_52, li_53, li_54, li_55, li_56, li_57, li_58, li_59, li_60, li_61, li_62, li_63, li_64, li_65, li_66, li_67, li_68, li_69, li_70, li_71, li_72, li_73, li_74, li_75, li_76, li_77, li_78, li_79, li_80, li_81, li_82, li_83, li_84, li_85, li_86, li_87, li_88, li_89, li_90, li_91, li_92, li_93, li_94, li_95, li_96, li_97, li_98, li_99, li_100, li_101, li_102, li_103, li_104, li_105, li_106, li_107, li_108, li_109, li_110, li_111, li_112, li_113, li_114, li_115, li_116, li_117, li_118, li_119, li_120, li_121, li_122, li_123, li_124, li_125, li_126, li_127, li_128, li_160, li_219, li_220, li_248, li_249, li_250, li_251, li_255, li_999, li_1000, li_1023, li_1024, li_10240, li_999999, li_1048576, li_1048575, nI_add, nI_mul, zi_div, zi_eq, zi_le, zi_lt, zi_in, zi_c, zi_sub, zi_ofN, zi_m1e, zi_m1e', zi_m1lt, zi_m1le, zi_ltm1, zi_lem1, zi_m1m1, jif_T, jif_F, jif_t, jif_f, zb_1, zb_0, zb_01, zb_ft, zn_01a, zn_01b, zi_tst, zi_pow, cond_true, jcI_some, jcV_some, jcJ_some, Nat.reduceAdd, Nat.reduceMul, Nat.reduceSub, reduceCtorEq, Bool.true_eq_false, Bool.false_eq_true, zb_t, zb_f, Nat.add_zero, Nat.zero_add, Nat.mul_zero, Nat.zero_mul, or_true, true_or, or_false, false_or, and_true, true_and, and_false, false_and, not_true_eq_false, not_false_eq_true, jo_some, ↓reduceIte, zi_b, r1, kg, lg, hb1]
      rw [hsh2, zi_or, ← hE]
      exact q6
    rw [start]
    by_cases hk : ∃ y, y < G ∧ σ y = kdN A w r
    · obtain ⟨y, ⟨y1, y2⟩, y3⟩ := pk_least _ hk
      obtain ⟨G', σ', ν', I', J', q1, q2, q3, q4, q5, q6⟩ := cont y G σ J (by omega) (by omega) (fun _ _ => rfl) hσ (nmb_old hn y1 y2)
      refine ⟨G', σ', ν', I', J', q1, q2, q3, q4, q5, ?_⟩
      have hne : ¬ nI y = nI G := fun h => by have := (nI_eq (by omega) (by omega)).mp h; omega
      rw [c_wid_37 (d + 2) L g (by omega) hz hσ (by omega) (fun b hb hbe => y3 b hb ⟨by omega, hbe⟩) (fun _ => y2) y 0 (by omega), e_Maker_widen_64, jif_f hne]
      exact q6
    · have hk' : ∀ y, y < G → σ y ≠ kdN A w r := fun y hy hye => hk ⟨y, hy, hye⟩
      obtain ⟨G', σ', ν', I', J', q1, q2, q3, q4, q5, q6⟩ := cont G (G + 1) (jup σ G (kdN A w r)) (ju J 29 G (lN (kdN A w r))) (by omega) (by omega) (fun b hb => ju_n hb) (fun x hx => by
        by_cases hxG : x = G
        · rw [hxG, zu_at, jup_s]; exact ⟨rfl, hz⟩
        · rw [zu_k hxG, jup_n hxG]; exact hσ x (by omega)) (nmb_new hn hk')
      refine ⟨G', σ', ν', I', J', q1, q2, q3, q4, q5, ?_⟩
      rw [c_wid_37 (d + 2) L g (by omega) hz hσ (Nat.le_refl _) hk' (fun h => absurd h (by omega)) G 0 (by omega), e_Maker_widen_64]
      simp (disch := omega) only [li_0, li_1, li_2, li_3, li_4, li_5, li_6, li_7, li_8, li_9, li_10, li_11, li_12, li_13, li_14, li_15, li_16, li_17, li_18, li_19, li_20, li_21, li_22, li_23, li_24, li_25, li_26, li_27, li_28, li_29, li_30, li_31, li_32, li_33, li_34, li_35, li_36, li_37, li_38, li_39, li_40, li_41, li_42, li_43, li_44, li_45, li_46, li_47, li_48, li_49, li_50, li_51, li_52, li_53, li_54, li_55, li_56, li_57, li_58, li_59, li_60, li_61, li_62, li_63, li_64, li_65, li_66, li_67, li_68, li_69, li_70, li_71, li_72, li_73, li_74, li_75, li_76, li_77, li_78, li_79, li_80, li_81, li_82, li_83, li_84, li_85, li_86, li_87, li_88, li_89, li_90, li_91, li_92, li_93, li_94, li_95, li_96, li_97, li_98, li_99, li_100, li_101, li_102, li_103, li_104, li_105, li_106, li_107, li_108, li_109, li_110, li_111, li_112, li_113, li_114, li_115, li_116, li_117, li_118, li_119, li_120, li_121, li_122, li_123, li_124, li_125, li_126, li_127, li_128, li_160, li_219, li_220, li_248, li_249, li_250, li_251, li_255, li_999, li_1000, li_1023, li_1024, li_10240, li_999999, li_1048576, li_1048575, nI_add, nI_mul, zi_div, zi_eq, zi_le, zi_lt, zi_in, zi_c, zi_sub, zi_ofN, zi_m1e, zi_m1e', zi_m1lt, zi_m1le, zi_ltm1, zi_lem1, zi_m1m1, jif_T, jif_F, jif_t, jif_f, zb_1, zb_0, zb_01, zb_ft, zn_01a, zn_01b, zi_tst, zi_pow, cond_true, jcI_some, jcV_some, jcJ_some, Nat.reduceAdd, Nat.reduceMul, Nat.reduceSub, reduceCtorEq, Bool.true_eq_false, Bool.false_eq_true, zb_t, zb_f, Nat.add_zero, Nat.zero_add, Nat.mul_zero, Nat.zero_mul, or_true, true_or, or_false, false_or, and_true, true_and, and_false, false_and, not_true_eq_false, not_false_eq_true, zl_w]
      exact q6
def fWt (A : kA) (ν : Nat → Nat) (r0 l0 : Nat) (c l : Nat) : Nat := if l < l0 then fWo A ν c l (r0 + 1) else fWo A ν c l r0
theorem fWt_lt {A : kA} {ν : Nat → Nat} (hν : ∀ r, ν r < 20) (r0 l0 c l : Nat) : fWt A ν r0 l0 c l < 1048576 := by
  unfold fWt
  split
  · exact fWo_lt hν c l _
  · exact fWo_lt hν c l _
theorem c_wid_162 {I : Nat → Nat → Int32} {r a out gr c G : Nat} {ν : Nat → Nat} {A : kA} {x5 : Int32} (hV : kV A) (r1 : g.2.2.1 19 13 = some gr) (kg : (jGs L g).1 gr = 14) (lg : (jGs L g).2.1 gr = 2 ^ c) (hc : c ≤ 14) (hc6 : 6 ≤ c) (hr : r < A.1) (hG : G ≤ 10) (hν : ∀ i, i < A.1 → ν i < G) (hν20 : ∀ i, ν i < 20) (hg : ∀ i, i < A.1 → I gr i = nI (ν i)) : ∀ k l (J : Nat → Nat → Int64), l + k = 3 → cR L g I J a A → mkU I J G G 0 (fWt A ν r l) → ∃ J', (∀ y, y ≠ 20 → J' y = J y) ∧ mkU I J' G G 0 (fWt A ν (r + 1) 0) ∧ jval (d + 1) 37 162 [.ref 19, .ref a, jjunk, .ref out, jjunk, .int x5, .int (nI r), .int (nI l), jjunk] [] (jGs L g, I, J) = jval (d + 1) 37 143 [.ref 19, .ref a, jjunk, .ref out, jjunk, .int x5, .int (nI (r + 1)), jjunk, jjunk] [] (jGs L g, I, J') := by
  have wA := hV.1.1
  have hA10 := hV.2.1
  have hp5 : 2 ^ c ≤ 2 ^ 14 := Nat.pow_le_pow_right (by omega) hc
  have hp6 : 2 ^ 6 ≤ 2 ^ c := Nat.pow_le_pow_right (by omega) hc6
  intro k
  induction k with
  | zero =>
    intro l J hl hA hU
    have : l = 3 := by omega
    subst this
    refine ⟨J, fun _ _ => rfl, mkU_cg hU (fun q _ l' hl' => ?_) (fWt_lt hν20 _ _), ?_⟩
    · unfold fWt
      rw [if_neg (by omega), if_pos hl']
    · rw [e_Maker_widen_162, jif_t (by decide), nI_1]
  | succ k ih =>
    intro l J hl hA hU
    have hl3 : l < 3 := by omega
    have k1 : (jGs L g).1 a = 2 := hA.1
    have hA20 := (kR20 hA.1).2.1
    have ht := wA.2 r hr l hl3
    have hgr := hg r hr
    have hgt := hg _ ht
    have hn1 := hν r hr
    have hn2 := hν _ ht
    have hpow : nI 1 <<< (nI (ν (A.2.2 r l)) &&& nI 31) = nI (2 ^ ν (A.2.2 r l)) := nI_pow _ (by omega)
    have hlt : 2 ^ ν (A.2.2 r l) < 1048576 := Nat.lt_of_lt_of_le (Nat.pow_lt_pow_right (by omega) (show ν (A.2.2 r l) < 20 by omega)) (by decide)
    obtain ⟨s1, s2⟩ := c_addStepU d L g hU hn1 hl3 hlt
    obtain ⟨J', q1, q2, q3⟩ := ih (l + 1) _ (by omega) (cR_cg L g hA rfl rfl (ju_n hA20)) (mkU_cg s1 (fun q _ l' _ => by
      by_cases hq : q = ν r
      · subst hq
        rw [jup_s]
        by_cases hll : l' = l
        · subst hll
          rw [jup_s]
          unfold fWt
          rw [if_pos (by omega), if_neg (by omega)]
          show fWo A ν (ν r) l' r ||| (if ν r = ν r then 2 ^ ν (A.2.2 r l') else 0) = _
          rw [if_pos rfl]
        · rw [jup_n hll]
          unfold fWt
          by_cases h : l' < l
          · rw [if_pos (by omega), if_pos h]
          · rw [if_neg (by omega), if_neg h]
      · rw [jup_n hq]
        unfold fWt
        by_cases h : l' < l
        · rw [if_pos (by omega), if_pos h]
        · by_cases hll : l' = l
          · rw [if_pos (by omega), if_neg h]
            show fWo A ν q l' r ||| (if ν r = q then 2 ^ ν (A.2.2 r l') else 0) = _
            rw [if_neg (fun e => hq e.symm), Nat.or_zero]
          · rw [if_neg (by omega), if_neg h]) (fWt_lt hν20 _ _))
    refine ⟨J', fun y hy => (q1 y hy).trans (ju_n hy), q2, ?_⟩
    rw [e_Maker_widen_162, jif_f (show ¬ (3 : Int32) ≤ nI l from nI_ge (a := l) (b := 3) hl3 (by omega)), if_pos k1, c_to d L g hA (by omega) hl3, jcI_some, e_Maker_widen_176]
    simp (disch := omega) only [li_0, li_1, li_2, li_3, li_4, li_5, li_6, li_7, li_8, li_9, li_10, li_11, li_12, li_13, li_14, li_15, li_16, li_17, li_18, li_19, li_20, li_21, li_22, li_23, li_24, li_25, li_26, li_27, li_28, li_29, li_30, li_31, li_32, li_33, li_34, li_35, li_36, li_37, li_38, li_39, li_40, li_41, li_42, li_43, li_44, li_45, li_46, li_47, li_48, li_49, li_50, li_51, li_52, li_53, li_54, li_55, li_56, li_57, li_58, li_59, li_60, li_61, li_62, li_63, li_64, li_65, li_66, li_67, li_68, li_69, li_70, li_71, li_72, li_73, li_74, li_75, li_76, li_77, li_78, li_79, li_80, li_81, li_82, li_83, li_84, li_85, li_86, li_87, li_88, li_89, li_90, li_91, li_92, li_93, li_94, li_95, li_96, li_97, li_98, li_99, li_100, li_101, li_102, li_103, li_104, li_105, li_106, li_107, li_108, li_109, li_110, li_111, li_112, li_113, li_114, li_115, li_116, li_117, li_118, li_119, li_120, li_121, li_122, li_123, li_124, li_125, li_126, li_127, li_128, li_160, li_219, li_220, li_248, li_249, li_250, li_251, li_255, li_999, li_1000, li_1023, li_1024, li_10240, li_999999, li_1048576, li_1048575, nI_add, nI_mul, zi_div, zi_eq, zi_le, zi_lt, zi_in, zi_c, zi_sub, zi_ofN, zi_m1e, zi_m1e', zi_m1lt, zi_m1le, zi_ltm1, zi_lem1, zi_m1m1, jif_T, jif_F, jif_t, jif_f, zb_1, zb_0, zb_01, zb_ft, zn_01a, zn_01b, zi_tst, zi_pow, cond_true, jcI_some, jcV_some, jcJ_some, Nat.reduceAdd, Nat.reduceMul, Nat.reduceSub, reduceCtorEq, Bool.true_eq_false, Bool.false_eq_true, zb_t, zb_f, Nat.add_zero, Nat.zero_add, Nat.mul_zero, Nat.zero_mul, or_true, true_or, or_false, false_or, and_true, true_and, and_false, false_and, not_true_eq_false, not_false_eq_true, jo_some, ↓reduceIte, r1, kg, lg, hgr, hgt, hpow]
    rw [e_Maker_widen_208, s2, jcV_some, e_Maker_widen_211, nI_1]
    exact q3
theorem c_wid_143 {I : Nat → Nat → Int32} {a out gr c G : Nat} {ν : Nat → Nat} {A : kA} {x5 : Int32} (hV : kV A) (r1 : g.2.2.1 19 13 = some gr) (kg : (jGs L g).1 gr = 14) (lg : (jGs L g).2.1 gr = 2 ^ c) (hc : c ≤ 14) (hc6 : 6 ≤ c) (hG : G ≤ 10) (hν : ∀ i, i < A.1 → ν i < G) (hν20 : ∀ i, ν i < 20) (hg : ∀ i, i < A.1 → I gr i = nI (ν i)) : ∀ k r (J : Nat → Nat → Int64), r + k = A.1 → cR L g I J a A → mkU I J G G 0 (fWt A ν r 0) → ∃ J', (∀ y, y ≠ 20 → J' y = J y) ∧ mkU I J' G G 0 (fun c l => fWo A ν c l A.1) ∧ jval (d + 1) 37 143 [.ref 19, .ref a, jjunk, .ref out, jjunk, .int x5, .int (nI r), jjunk, jjunk] [] (jGs L g, I, J) = jval (d + 1) 37 223 [.ref 19, jjunk, jjunk, .ref out, jjunk, .int x5, jjunk, jjunk, jjunk] [] (jGs L g, I, J') := by
  have hA10 := hV.2.1
  intro k
  induction k with
  | zero =>
    intro r J hr hA hU
    have : r = A.1 := by omega
    subst this
    have k1 : (jGs L g).1 a = 2 := hA.1
    refine ⟨J, fun _ _ => rfl, mkU_cg hU (fun q _ l' _ => ?_) (fun c l => fWo_lt hν20 c l _), ?_⟩
    · unfold fWt
      rw [if_neg (by omega)]
    · rw [e_Maker_widen_143, if_pos k1, hA.2.2.2.2.2, jif_t (nI_le (Nat.le_refl _) (by omega))]
  | succ k ih =>
    intro r J hr hA hU
    have k1 : (jGs L g).1 a = 2 := hA.1
    have hA20 := (kR20 hA.1).2.1
    obtain ⟨J1, a1, a2, a3⟩ := c_wid_162 d L g (out := out) (x5 := x5) hV r1 kg lg hc hc6 (show r < A.1 by omega) hG hν hν20 hg 3 0 J (by omega) hA hU
    obtain ⟨J', q1, q2, q3⟩ := ih (r + 1) J1 (by omega) (cR_cg L g hA rfl rfl (a1 a hA20)) a2
    refine ⟨J', fun y hy => (q1 y hy).trans (a1 y hy), q2, ?_⟩
    rw [← q3, ← a3, e_Maker_widen_143, if_pos k1, hA.2.2.2.2.2, jif_f (nI_ge (by omega) (by omega)), jif_f (show ¬ (10 : Int32) ≤ nI r from nI_ge (a := r) (b := 10) (by omega) (by omega))]
    rfl
theorem c_widen {I : Nat → Nat → Int32} {J : Nat → Nat → Int64} {PC PQ a out w : Nat} {A : kA} (hI : mkI L g I PC PQ) (hA : cR L g I J a A) (haC : a ≤ g.2.2.2.1) (hw : w < 2) (ho : gK L g out = 2) (hoC : out ≤ g.2.2.2.1) : ∃ g' I' J', mkI L g' I' PC PQ ∧ fX L g g' I I' J J' out ∧ cR L g' I' J' out (vWid A w) ∧ jcall (d + 3) 37 [.ref 19, .ref a, .int (nI w), .ref out] (jGs L g, I, J) = some (none, (jGs L g', I', J')) := by
  have hV := hA.2.1
  have wA := hV.1.1
  have hA10 := hV.2.1
  have k1 : (jGs L g).1 a = 2 := hA.1
  have k3 : (jGs L g).1 out = 2 := ho
  have ha := kR20 hA.1
  have hoo := kR20 ho
  obtain ⟨kr, rr, sr, gr, fr, c, base, N, z1, z2, z3, z4, z5, z6, z7, z8⟩ := id hI
  have kg : (jGs L g).1 gr = 14 := z1.2.2.2.2.2.2.2.2.1
  have lg : (jGs L g).2.1 gr = 2 ^ c := z1.2.2.2.2.2.2.2.2.2.2.2.2.2.1
  have r1 := z1.2.2.2.1
  have n1 : 19 ≠ gr := ne_K (gK_19 L g) kg (by omega)
  have n2 : sr ≠ gr := ne_K z1.2.2.2.2.2.2.2.1 kg (by omega)
  have n3 : a ≠ gr := ne_K hA.1 kg (by omega)
  have n4 : out ≠ gr := ne_K ho kg (by omega)
  obtain ⟨G, σ, ν0, I1, J1, p1, p2, p3, p4, p5, p6⟩ := c_wid_9 d L g (a := a) (out := out) hV hw r1 kg lg z3 z2 A.1 0 0 (fun _ => 0) (fun _ => 0) I J (by omega) hA (nmb_0 _ _ _) (by omega) (fun y hy => absurd hy (by omega)) (fun i hi => absurd hi (by omega))
  have hI1 : mkI L g I1 PC PQ := ⟨kr, rr, sr, gr, fr, c, base, N, z1, z2, z3, by rw [p1 19 n1]; exact z4, by rw [p1 19 n1]; exact z5, z6, fun x hx => by rw [p1 sr n2]; exact z7 x hx, z8⟩
  have hA1 : cR L g I1 J1 a A := cR_cg L g hA rfl (p1 a n3) (p2 a ha.2.2.2.2.2)
  have hf1 : fG L g g I I1 J J1 := fG_same (fun x hx => by
    have o := mkO_rr z1 hx
    exact ⟨p1 x o.2.2.2.1, p2 x o.2.2.2.2.2.2.2.2.2.2⟩)
  -- the numbers, zero behind the last state
  obtain ⟨ν, hνe⟩ : ∃ ν : Nat → Nat, ν = fun i => if i < A.1 then ν0 i else 0 := ⟨_, rfl⟩
  have hνi : ∀ i, i < A.1 → ν i = ν0 i := fun i hi => by rw [hνe]; exact if_pos hi
  have hn : nmb (kdN A w) A.1 G σ ν := nmb_cg p3 (fun _ _ => rfl) (fun _ _ => rfl) hνi
  have hνG : ∀ i, i < A.1 → ν i < G := fun i hi => (hn.2.1 i hi).1
  have hν20 : ∀ i, ν i < 20 := fun i => by
    by_cases hi : i < A.1
    · have := hνG i hi; omega
    · rw [hνe]
      show (if i < A.1 then ν0 i else 0) < 20
      rw [if_neg hi]; omega
  have hE : ∀ n, n ≤ A.1 → eW A ν0 n = eW A ν n := by
    intro n
    induction n with
    | zero => intro _; rfl
    | succ n ih =>
      intro hnA
      show eW A ν0 n ||| (if A.2.1 n = true then 2 ^ ν0 n else 0) = eW A ν n ||| (if A.2.1 n = true then 2 ^ ν n else 0)
      rw [ih (by omega), hνi n (by omega)]
  rw [hE A.1 (Nat.le_refl _)] at p6
  have start : jcall (d + 3) 37 [.ref 19, .ref a, .int (nI w), .ref out] (jGs L g, I, J) = jval (d + 2) 37 119 [.ref 19, .ref a, jjunk, .ref out, .int (nI G), .int (nI (eW A ν A.1)), jjunk, jjunk, jjunk] [] (jGs L g, I1, J1) := by
    rw [c_Maker_widen, e_Maker_widen_0]
    exact p6
  by_cases hGA : G = A.1
  · obtain ⟨I2, J2, q1, q2, q3⟩ := c_set (d + 1) L g ho hA1
    have hinj := kSurj A.1 ν (fun x hx => by obtain ⟨k, k1, k2, -⟩ := hn.2.2 x (by omega); exact ⟨k, k1, k2⟩)
    have hsame : vWid A w = A := vWid_same hV (fun r hr q hq h => hinj r hr q hq ((nmb_iff hn hr hq).mpr h))
    refine ⟨g, I2, J2, mkI_out L g hI1 ho (fun x hx => (q1 x hx).1), fX_trans (fG_X hf1) (fX_one q1), by rw [hsame]; exact q2, ?_⟩
    rw [start, e_Maker_widen_119, if_pos k1, hA1.2.2.2.2.2, jif_t (by rw [hGA]), if_pos k3, q3, jcV_some, e_Maker_widen_133]
  · have hne : ¬ nI G = nI A.1 := fun h => hGA ((nI_eq (by omega) (by omega)).mp h)
    obtain ⟨J2, b1, b2, b3⟩ := c_begin (d + 1) L g (I := I1) (J := J1) (n := G) (by omega)
    have i19 : ∀ x, x ≠ 19 → ju (ju (ju I1 19 4 (nI G)) 19 5 (nI G)) 19 6 (nI 0) x = I1 x := fun x hx => by rw [ju_n hx, ju_n hx, ju_n hx]
    have i7 : ju (ju (ju I1 19 4 (nI G)) 19 5 (nI G)) 19 6 (nI 0) 19 7 = I1 19 7 := by rw [zu_k (by omega), zu_k (by omega), zu_k (by omega)]
    have i12 : ju (ju (ju I1 19 4 (nI G)) 19 5 (nI G)) 19 6 (nI 0) 19 12 = I1 19 12 := by rw [zu_k (by omega), zu_k (by omega), zu_k (by omega)]
    generalize ju (ju (ju I1 19 4 (nI G)) 19 5 (nI G)) 19 6 (nI 0) = I2 at *
    have hA2 : cR L g I2 J2 a A := cR_cg L g hA1 rfl (i19 a ha.1) (b1 a ha.2.1)
    obtain ⟨J3, r3, r4, r5⟩ := c_wid_143 (d + 1) L g (out := out) (x5 := nI (eW A ν A.1)) hV r1 kg lg z3 z2 (show G ≤ 10 by omega) hνG hν20 (fun i hi => by rw [i19 gr (by omega), hνi i hi]; exact p5 i hi) A.1 0 J2 (by omega) hA2 (mkU_cg b2 (fun q _ l _ => by unfold fWt; rw [if_neg (by omega)]; rfl) (fWt_lt hν20 _ _))
    obtain ⟨J4, s1, s2, s3⟩ := c_signU d L g r4 (eW_lt (A := A) hν20 A.1)
    have hI2 : mkI L g I2 PC PQ := mkI_cg hI1 i7 i12 i19
    obtain ⟨hsim, hk0⟩ := sim_W hV hn
    obtain ⟨g', I', J', f1, f2, f3⟩ := c_finU d L hI2 s2 (fun c l => fWo_lt hν20 c l _) hsim ho hoC
    rw [hk0] at f3
    have hf : fX L g g' I I' J J' out := fX_trans (fG_X (fG_trans hf1 (fG_same (fun x hx => by
      obtain ⟨x1, x2, x3, x4, x5⟩ := mkO_20 hx
      exact ⟨i19 x x1, by rw [s1 x x3 x4 x5, r3 x x2]; exact b1 x x2⟩)))) f2
    have e119 : jcall (d + 3) 37 [.ref 19, .ref a, .int (nI w), .ref out] (jGs L g, I, J) = jcI (jcall (d + 2) 42 [.ref 19, .int (nI 1), .ref out] (jGs L g, I2, J4)) (fun r2 S1 => jval (d + 2) 37 235 [jjunk, jjunk, jjunk, .ref out, jjunk, jjunk, jjunk, jjunk, jjunk] [.int r2] S1) := by
      rw [start, e_Maker_widen_119, if_pos k1, hA1.2.2.2.2.2, jif_f hne, b3, jcV_some, e_Maker_widen_140, show (0 : Int32) = nI 0 from rfl, r5, e_Maker_widen_223, s3, jcV_some, e_Maker_widen_229]
      rfl
    rw [e119]
    have ho' : gK L g' out = 2 := by rw [(hf.2.1 out hoC).1]; exact ho
    have k3' : (jGs L g').1 out = 2 := ho'
    rcases f3 with ⟨V, v1, v2, v3⟩ | ⟨v1, v2, v3, v4⟩
    · refine ⟨g', I', J', f1, hf, ?_, ?_⟩
      · unfold vWid; rw [v1, Option.getD_some]; exact v2
      · rw [v3, jcI_some, e_Maker_widen_235, jif_f (by decide), e_Maker_widen_242]
    · obtain ⟨I5, J5, q1, q2, q3⟩ := c_makeAll (d + 1) L g' (I := I') (J := J') ho'
      refine ⟨g', I5, J5, mkI_out L g' f1 ho' (fun x hx => (q1 x hx).1), fX_trans hf (fX_one q1), ?_, ?_⟩
      · unfold vWid; rw [v1]; exact q2
      · rw [v4, jcI_some, e_Maker_widen_235, jif_t (by decide), if_pos k3', q3, jcV_some, e_Maker_widen_242]
end CC

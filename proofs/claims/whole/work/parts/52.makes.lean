/-! THE REFERENCE: makes -/
set_option maxRecDepth 100000
def kAll : kA := (1, fun q => decide (q = 0), fun _ _ => 0)
theorem kAll_V : kV kAll := by
  refine ⟨⟨⟨Nat.zero_lt_one, fun q hq l hl => Nat.zero_lt_one⟩, fun i hi j hj _ => ?_, fun p hp => Nat.zero_le _, fun i hi => ?_⟩, (by decide : (1 : Nat) ≤ 10), fun q hq => ?_, fun q l _ => rfl⟩
  · have h1 : i < 1 := hi
    have h2 : j < 1 := hj
    omega
  · have h1 : i < 1 := hi
    omega
  · have h1 : 1 ≤ q := hq
    exact decide_eq_false (by omega)
theorem mR_cg {I I' k A} (h : mR I k A) (hc : ∀ c, c < 32 → I' 119 (32 * k + c) = I 119 (32 * k + c)) : mR I' k A := by
  obtain ⟨h1, h2, h3, h4, h5, h6, h7⟩ := h
  refine ⟨h1, h2, h3, ?_, ?_, fun r hr l hl => ?_, fun c hc1 hc2 => ?_⟩
  · exact (hc 0 (by omega)).trans h4
  · exact (hc 1 (by omega)).trans h5
  · have := hc (2 + 3 * r + l) (by omega)
    rw [show 32 * k + (2 + 3 * r + l) = 32 * k + 2 + 3 * r + l by omega] at this
    exact this.trans (h6 r hr l hl)
  · exact (hc c hc2).trans (h7 c hc1 hc2)
theorem mR_eq {I0 I k A} (h : mR I0 k A) (he : mEq I0 I) (hk : k < 55) : mR I k A := mR_cg h (fun c hc => he _ _ (by unfold mScr; omega))
theorem mCp_in {I a b c} (hc : c < 32) : mCp I a b 32 119 (32 * b + c) = I 119 (32 * a + c) := by
  unfold mCp
  rw [jup_s, if_pos (by omega), show 32 * b + c - 32 * b = c by omega]
theorem mCp_out {I a b j} (hj : ¬ (32 * b ≤ j ∧ j < 32 * b + 32)) : mCp I a b 32 119 j = I 119 j := by
  unfold mCp
  rw [jup_s, if_neg hj]
theorem mCp_n {I a b x} (hx : x ≠ 119) : mCp I a b 32 x = I x := jup_n hx
theorem mR_cp {I a b A} (h : mR I a A) (hb : b < 56) : mR (mCp I a b 32) b A := by
  obtain ⟨h1, h2, h3, h4, h5, h6, h7⟩ := h
  refine ⟨hb, h2, h3, ?_, ?_, fun r hr l hl => ?_, fun c hc1 hc2 => ?_⟩
  · exact (mCp_in (c := 0) (by omega)).trans h4
  · exact (mCp_in (c := 1) (by omega)).trans h5
  · have := mCp_in (I := I) (a := a) (b := b) (c := 2 + 3 * r + l) (by omega)
    rw [show 32 * b + (2 + 3 * r + l) = 32 * b + 2 + 3 * r + l by omega, show 32 * a + (2 + 3 * r + l) = 32 * a + 2 + 3 * r + l by omega] at this
    exact this.trans (h6 r hr l hl)
  · exact (mCp_in hc2).trans (h7 c hc1 hc2)
theorem mAll_out {I k j} (hj : ¬ (32 * k ≤ j ∧ j < 32 * k + 32)) : mAll I k 119 j = I 119 j := by
  unfold mAll
  rw [jup_s, if_neg hj]
theorem mAll_n {I k x} (hx : x ≠ 119) : mAll I k x = I x := jup_n hx
theorem mAll_in {I k c} (hc : c < 32) : mAll I k 119 (32 * k + c) = if c < 2 then 1 else 0 := by
  unfold mAll
  rw [jup_s, if_pos (by omega)]
  by_cases h : c < 2
  · rw [if_pos h, if_pos (by omega)]
  · rw [if_neg h, if_neg (by omega)]
theorem mR_all {I k} (hk : k < 56) : mR (mAll I k) k kAll := by
  refine ⟨hk, (by decide : (1 : Nat) ≤ 10), kAll_V.1.1, ?_, ?_, fun r hr l hl => ?_, fun c hc1 hc2 => ?_⟩
  · exact (mAll_in (c := 0) (by omega)).trans rfl
  · exact (mAll_in (c := 1) (by omega)).trans (by decide)
  · have hr1 : r < 1 := hr
    have := mAll_in (I := I) (k := k) (c := 2 + 3 * r + l) (by omega)
    rw [show 32 * k + (2 + 3 * r + l) = 32 * k + 2 + 3 * r + l by omega, if_neg (by omega)] at this
    exact this
  · have hc3 : 5 ≤ c := hc1
    exact (mAll_in hc2).trans (if_neg (by omega))
/-- the quotient's search, in memory -/
def mQ (I0 : Nat → Nat → Int32) (K T : Nat → Nat) (N : Nat) (κ : Nat → Nat) (en : Nat → Bool) (mem T' : Nat → Nat) (n p rr : Nat) (I : Nat → Nat → Int32) : Prop :=
  mGr I0 K T N I ∧ (∀ i, i < N → I 127 i = nI (κ i)) ∧ (∀ r, r < n → I 133 r = nI (mem r)) ∧ (∀ c, c < 10 → (∃ r, r < n ∧ κ (mem r) = c ∧ I 132 c = nI r) ∨ ((∀ r, r < n → κ (mem r) ≠ c) ∧ I 132 c = -1)) ∧ I 119 1760 = 0 ∧ I 119 1761 = nI (kEm (fun r => en (K (mem r))) rr) ∧ (∀ q, q < p → I 119 (1762 + q) = nI (T' q)) ∧ ∀ c, 2 + p ≤ c → c < 32 → I 119 (1760 + c) = 0
theorem mGr_js {I0 K T N I k x} (h : mGr I0 K T N I) (hk : 1760 ≤ k) : mGr I0 K T N (ju I 119 k x) := by
  obtain ⟨h1, h2, h3, h4, h5⟩ := h
  have hne : ∀ b j, b ≠ 119 → ju I 119 k x b j = I b j := fun b j hb => zu_a hb
  refine ⟨mEq_ju h1 (by unfold mScr; omega), ?_, fun i hi => ?_, fun q hq => ?_, fun y hy => ?_⟩
  · rw [hne _ _ (by omega)]; exact h2
  · rw [hne _ _ (by omega)]; exact h3 i hi
  · rw [hne _ _ (by omega)]; exact h4 q hq
  · rw [hne _ _ (by omega)]; exact h5 y hy
theorem kEm_cg {e e' : Nat → Bool} : ∀ n, (∀ r, r < n → e r = e' r) → kEm e n = kEm e' n
  | 0, _ => rfl
  | n + 1, h => by
    show kEm e n ||| _ = kEm e' n ||| _
    rw [kEm_cg n (fun r hr => h r (by omega)), h n (by omega)]
section MM
variable (d L : Nat) (g : jG) {I : Nat → Nat → Int32} (J : Nat → Nat → Int64)
theorem r_makes_in {I0 K T N en mem T' n r l into} {κ : Nat → Nat} {nx : Nat → Nat → Nat} (hN : N ≤ 10240) (hT : ∀ q, q < 3 * N → T q < N) (hκ : ∀ i, i < N → κ i < 10) (hnx : ∀ k, k < N → ∀ l, l < 3 → nx (κ k) l = κ (T (3 * k + l))) (hm : ∀ r, r < n → mem r < N) (hb : bf nx (fun r => κ (mem r)) T' n (3 * r + l)) (hn : n ≤ 10) (hr : r < n) (hl : l < 3) (hQ : mQ I0 K T N κ en mem T' n (3 * r + l) (r + 1) I) :
    ∃ mem' T'' n' I', n ≤ n' ∧ n' ≤ 10 ∧ (∀ r, r < n → mem' r = mem r) ∧ (∀ r, r < n' → mem' r < N) ∧ (∀ q, q < 3 * r + l → T'' q = T' q) ∧ bf nx (fun r => κ (mem' r)) T'' n' (3 * r + l + 1) ∧ mQ I0 K T N κ en mem' T'' n' (3 * r + l + 1) (r + 1) I' ∧ jval (d + 2) 185 160 [.ref 117, .int (nI into), jjunk, .int (nI n), .int (nI 1760), .int (nI r), .int (nI (mem r)), .int (nI l), jjunk] [] (jGs L g, I, J) = jval (d + 2) 185 160 [.ref 117, .int (nI into), jjunk, .int (nI n'), .int (nI 1760), .int (nI r), .int (nI (mem r)), .int (nI (l + 1)), jjunk] [] (jGs L g, I', J) := by
  obtain ⟨q1, q2, q3, q4, q5, q6, q7, q8⟩ := hQ
  have hmr := hm r hr
  have ht := hT (3 * mem r + l) (by omega)
  have hc := hκ _ ht
  have hkey : nx (κ (mem r)) l = κ (T (3 * mem r + l)) := hnx _ hmr l hl
  have hlead := q1.2.2.2.1 (3 * mem r + l) (by omega)
  have hkind := q2 _ ht
  have e3 : (3 * r + l) / 3 = r := by omega
  have e4 : (3 * r + l) % 3 = l := by omega
  rcases q4 _ hc with ⟨r', r1, r2, r3⟩ | ⟨r2, r3⟩
  · have hb' := bf_old hb (by rw [e3]; exact hr) r1 (by rw [e3, e4, hkey]; exact r2)
    refine ⟨mem, jup T' (3 * r + l) r', n, ju I 119 (1762 + (3 * r + l)) (nI r'), Nat.le_refl _, hn, fun r _ => rfl, hm, fun q hq => jup_n (by omega), hb', ⟨mGr_js q1 (by omega), fun i hi => by rw [zu_a (by omega)]; exact q2 i hi, fun r hr => by rw [zu_a (by omega)]; exact q3 r hr, fun c hc => by rw [zu_a (by omega)]; exact q4 c hc, by rw [zu_k (by omega)]; exact q5, by rw [zu_k (by omega)]; exact q6, fun q hq => ?_, fun c hc1 hc2 => by rw [zu_k (by omega)]; exact q8 c (by omega) hc2⟩, ?_⟩
    · by_cases hqp : q = 3 * r + l
      · rw [hqp, zu_at, jup_s]
      · rw [zu_k (by omega), jup_n hqp]; exact q7 q (by omega)
    · rw [e_TextValuesModel_makes_160]
      simp (disch := omega) only [li_0, li_1, li_2, li_3, li_4, li_5, li_6, li_7, li_8, li_9, li_10, li_11, li_12, li_13, li_14, li_15, li_16, li_17, li_18, li_19, li_20, li_21, li_22, li_23, li_24, li_25, li_26, li_27, li_28, li_29, li_30, li_31, li_32, li_33, li_34, li_35, li_36, li_37, li_38, li_39, li_40, li_41, li_42, li_43, li_44, li_45, li_46, li_47, li_48, li_49, li_50, li_51, li_52, li_53, li_54, li_55, li_56, li_57, li_58, li_59, li_60, li_61, li_62, li_63, li_64, li_65, li_66, li_67, li_68, li_69, li_70, li_71, li_72, li_73, li_74, li_75, li_76, li_77, li_78, li_79, li_80, li_81, li_82, li_83, li_84, li_85, li_86, li_87, li_88, li_89, li_90, li_91, li_92, li_93, li_94, li_95, li_96, li_97, li_98, li_99, li_100, li_101, li_102, li_103, li_104, li_105, li_106, li_107, li_108, li_109, li_110, li_111, li_112, li_113, li_114, li_115, li_116, li_117, li_118, li_119, li_120, li_121, li_122, li_123, li_124, li_125, li_126, li_127, li_128, li_160, li_219, li_220, li_248, li_249, li_250, li_251, li_255, li_999, li_1000, li_1023, li_1024, li_10240, li_999999, li_1048576, li_1048575, nI_add, nI_mul, zi_div, zi_eq, zi_le, zi_lt, zi_in, zi_c, zi_sub, zi_ofN, zi_m1e, zi_m1e', zi_m1lt, zi_m1le, zi_ltm1, zi_lem1, zi_m1m1, jif_T, jif_F, jif_t, jif_f, zb_1, zb_0, zb_01, zb_ft, zn_01a, zn_01b, zi_tst, zi_pow, cond_true, jcI_some, jcV_some, jcJ_some, Nat.reduceAdd, Nat.reduceMul, Nat.reduceSub, reduceCtorEq, Bool.true_eq_false, Bool.false_eq_true, zb_t, zb_f, Nat.add_zero, Nat.zero_add, Nat.mul_zero, Nat.zero_mul, or_true, true_or, or_false, false_or, and_true, true_and, and_false, false_and, not_true_eq_false, not_false_eq_true, hlead, hkind, r3]
      rw [e_TextValuesModel_makes_220]
      simp (disch := omega) only [li_0, li_1, li_2, li_3, li_4, li_5, li_6, li_7, li_8, li_9, li_10, li_11, li_12, li_13, li_14, li_15, li_16, li_17, li_18, li_19, li_20, li_21, li_22, li_23, li_24, li_25, li_26, li_27, li_28, li_29, li_30, li_31, li_32, li_33, li_34, li_35, li_36, li_37, li_38, li_39, li_40, li_41, li_42, li_43, li_44, li_45, li_46, li_47, li_48, li_49, li_50, li_51, li_52, li_53, li_54, li_55, li_56, li_57, li_58, li_59, li_60, li_61, li_62, li_63, li_64, li_65, li_66, li_67, li_68, li_69, li_70, li_71, li_72, li_73, li_74, li_75, li_76, li_77, li_78, li_79, li_80, li_81, li_82, li_83, li_84, li_85, li_86, li_87, li_88, li_89, li_90, li_91, li_92, li_93, li_94, li_95, li_96, li_97, li_98, li_99, li_100, li_101, li_102, li_103, li_104, li_105, li_106, li_107, li_108, li_109, li_110, li_111, li_112, li_113, li_114, li_115, li_116, li_117, li_118, li_119, li_120, li_121, li_122, li_123, li_124, li_125, li_126, li_127, li_128, li_160, li_219, li_220, li_248, li_249, li_250, li_251, li_255, li_999, li_1000, li_1023, li_1024, li_10240, li_999999, li_1048576, li_1048575, nI_add, nI_mul, zi_div, zi_eq, zi_le, zi_lt, zi_in, zi_c, zi_sub, zi_ofN, zi_m1e, zi_m1e', zi_m1lt, zi_m1le, zi_ltm1, zi_lem1, zi_m1m1, jif_T, jif_F, jif_t, jif_f, zb_1, zb_0, zb_01, zb_ft, zn_01a, zn_01b, zi_tst, zi_pow, cond_true, jcI_some, jcV_some, jcJ_some, Nat.reduceAdd, Nat.reduceMul, Nat.reduceSub, reduceCtorEq, Bool.true_eq_false, Bool.false_eq_true, zb_t, zb_f, Nat.add_zero, Nat.zero_add, Nat.mul_zero, Nat.zero_mul, or_true, true_or, or_false, false_or, and_true, true_and, and_false, false_and, not_true_eq_false, not_false_eq_true, hlead, hkind, r3]
      rw [show 1760 + 2 + 3 * r + l = 1762 + (3 * r + l) by omega]
  · have hn10 : n < 10 := by
      apply Classical.byContradiction
      intro hge
      obtain ⟨i, j, h1, h2, h3⟩ := kPigeon 10 (fun i => if i < 10 then κ (mem i) else κ (T (3 * mem r + l))) (fun i hi => by
        split
        · exact hκ _ (hm i (by omega))
        · exact hc)
      rw [if_pos (show i < 10 by omega)] at h3
      by_cases hj : j < 10
      · rw [if_pos hj] at h3
        have := hb.1 i (by omega) j (by omega) h3
        omega
      · rw [if_neg hj] at h3
        exact r2 i (by omega) h3
    have hb' := bf_new hb (by rw [e3]; exact hr) (fun i hi => by rw [e3, e4, hkey]; exact r2 i hi)
    have hfun : (fun s => κ (jup mem n (T (3 * mem r + l)) s)) = jup (fun r => κ (mem r)) n (nx ((fun r => κ (mem r)) ((3 * r + l) / 3)) ((3 * r + l) % 3)) := by
      funext s
      unfold jup
      split
      · dsimp only; rw [e3, e4, hkey]
      · rfl
    rw [← hfun] at hb'
    have hmr' : jup mem n (T (3 * mem r + l)) r = mem r := jup_n (by omega)
    refine ⟨jup mem n (T (3 * mem r + l)), jup T' (3 * r + l) n, n + 1, ju (ju (ju I 132 (κ (T (3 * mem r + l))) (nI n)) 133 n (nI (T (3 * mem r + l)))) 119 (1762 + (3 * r + l)) (nI n), by omega, by omega, fun r hr => jup_n (by omega), fun s hs => ?_, fun q hq => jup_n (by omega), hb', ⟨mGr_js (mGr_ju (mGr_ju q1 (by omega)) (by omega)) (by omega), fun i hi => by rw [zu_a (by omega), zu_a (by omega), zu_a (by omega)]; exact q2 i hi, fun s hs => ?_, fun c hc => ?_, by rw [zu_k (by omega), zu_a (by omega), zu_a (by omega)]; exact q5, ?_, fun q hq => ?_, fun c hc1 hc2 => by rw [zu_k (by omega), zu_a (by omega), zu_a (by omega)]; exact q8 c (by omega) hc2⟩, ?_⟩
    · by_cases hsn : s = n
      · rw [hsn, jup_s]; exact ht
      · rw [jup_n hsn]; exact hm s (by omega)
    · by_cases hsn : s = n
      · rw [hsn, jup_s, zu_a (by omega), zu_at]
      · rw [jup_n hsn, zu_a (by omega), zu_k hsn, zu_a (by omega)]; exact q3 s (by omega)
    · by_cases hcc : c = κ (T (3 * mem r + l))
      · left
        exact ⟨n, by omega, by rw [jup_s, hcc], by rw [hcc, zu_a (by omega), zu_a (by omega), zu_at]⟩
      · rcases q4 c hc with ⟨r', s1, s2, s3⟩ | ⟨s2, s3⟩
        · left
          exact ⟨r', by omega, by rw [jup_n (by omega)]; exact s2, by rw [zu_a (by omega), zu_a (by omega), zu_k hcc]; exact s3⟩
        · right
          refine ⟨fun s hs => ?_, by rw [zu_a (by omega), zu_a (by omega), zu_k hcc]; exact s3⟩
          by_cases hsn : s = n
          · rw [hsn, jup_s]; exact fun e => hcc e.symm
          · rw [jup_n hsn]; exact s2 s (by omega)
    · rw [zu_k (by omega), zu_a (by omega), zu_a (by omega), q6, kEm_cg (e := fun s => en (K (mem s))) (e' := fun s => en (K (jup mem n (T (3 * mem r + l)) s))) (r + 1) (fun s hs => by rw [jup_n (by omega)])]
    · by_cases hqp : q = 3 * r + l
      · rw [hqp, zu_at, jup_s]
      · rw [zu_k (by omega), zu_a (by omega), zu_a (by omega), jup_n hqp]; exact q7 q (by omega)
    · have hk2 : ju (ju I 132 (κ (T (3 * mem r + l))) (nI n)) 133 n (nI (T (3 * mem r + l))) 127 (T (3 * mem r + l)) = nI (κ (T (3 * mem r + l))) := by rw [zu_a (by omega), zu_a (by omega)]; exact hkind
      have hn2 : ju (ju I 132 (κ (T (3 * mem r + l))) (nI n)) 133 n (nI (T (3 * mem r + l))) 132 (κ (T (3 * mem r + l))) = nI n := by rw [zu_a (by omega), zu_at]
      rw [e_TextValuesModel_makes_160]
      simp (disch := omega) only [li_0, li_1, li_2, li_3, li_4, li_5, li_6, li_7, li_8, li_9, li_10, li_11, li_12, li_13, li_14, li_15, li_16, li_17, li_18, li_19, li_20, li_21, li_22, li_23, li_24, li_25, li_26, li_27, li_28, li_29, li_30, li_31, li_32, li_33, li_34, li_35, li_36, li_37, li_38, li_39, li_40, li_41, li_42, li_43, li_44, li_45, li_46, li_47, li_48, li_49, li_50, li_51, li_52, li_53, li_54, li_55, li_56, li_57, li_58, li_59, li_60, li_61, li_62, li_63, li_64, li_65, li_66, li_67, li_68, li_69, li_70, li_71, li_72, li_73, li_74, li_75, li_76, li_77, li_78, li_79, li_80, li_81, li_82, li_83, li_84, li_85, li_86, li_87, li_88, li_89, li_90, li_91, li_92, li_93, li_94, li_95, li_96, li_97, li_98, li_99, li_100, li_101, li_102, li_103, li_104, li_105, li_106, li_107, li_108, li_109, li_110, li_111, li_112, li_113, li_114, li_115, li_116, li_117, li_118, li_119, li_120, li_121, li_122, li_123, li_124, li_125, li_126, li_127, li_128, li_160, li_219, li_220, li_248, li_249, li_250, li_251, li_255, li_999, li_1000, li_1023, li_1024, li_10240, li_999999, li_1048576, li_1048575, nI_add, nI_mul, zi_div, zi_eq, zi_le, zi_lt, zi_in, zi_c, zi_sub, zi_ofN, zi_m1e, zi_m1e', zi_m1lt, zi_m1le, zi_ltm1, zi_lem1, zi_m1m1, jif_T, jif_F, jif_t, jif_f, zb_1, zb_0, zb_01, zb_ft, zn_01a, zn_01b, zi_tst, zi_pow, cond_true, jcI_some, jcV_some, jcJ_some, Nat.reduceAdd, Nat.reduceMul, Nat.reduceSub, reduceCtorEq, Bool.true_eq_false, Bool.false_eq_true, zb_t, zb_f, Nat.add_zero, Nat.zero_add, Nat.mul_zero, Nat.zero_mul, or_true, true_or, or_false, false_or, and_true, true_and, and_false, false_and, not_true_eq_false, not_false_eq_true, hlead, hkind, r3]
      rw [e_TextValuesModel_makes_220]
      simp (disch := omega) only [li_0, li_1, li_2, li_3, li_4, li_5, li_6, li_7, li_8, li_9, li_10, li_11, li_12, li_13, li_14, li_15, li_16, li_17, li_18, li_19, li_20, li_21, li_22, li_23, li_24, li_25, li_26, li_27, li_28, li_29, li_30, li_31, li_32, li_33, li_34, li_35, li_36, li_37, li_38, li_39, li_40, li_41, li_42, li_43, li_44, li_45, li_46, li_47, li_48, li_49, li_50, li_51, li_52, li_53, li_54, li_55, li_56, li_57, li_58, li_59, li_60, li_61, li_62, li_63, li_64, li_65, li_66, li_67, li_68, li_69, li_70, li_71, li_72, li_73, li_74, li_75, li_76, li_77, li_78, li_79, li_80, li_81, li_82, li_83, li_84, li_85, li_86, li_87, li_88, li_89, li_90, li_91, li_92, li_93, li_94, li_95, li_96, li_97, li_98, li_99, li_100, li_101, li_102, li_103, li_104, li_105, li_106, li_107, li_108, li_109, li_110, li_111, li_112, li_113, li_114, li_115, li_116, li_117, li_118, li_119, li_120, li_121, li_122, li_123, li_124, li_125, li_126, li_127, li_128, li_160, li_219, li_220, li_248, li_249, li_250, li_251, li_255, li_999, li_1000, li_1023, li_1024, li_10240, li_999999, li_1048576, li_1048575, nI_add, nI_mul, zi_div, zi_eq, zi_le, zi_lt, zi_in, zi_c, zi_sub, zi_ofN, zi_m1e, zi_m1e', zi_m1lt, zi_m1le, zi_ltm1, zi_lem1, zi_m1m1, jif_T, jif_F, jif_t, jif_f, zb_1, zb_0, zb_01, zb_ft, zn_01a, zn_01b, zi_tst, zi_pow, cond_true, jcI_some, jcV_some, jcJ_some, Nat.reduceAdd, Nat.reduceMul, Nat.reduceSub, reduceCtorEq, Bool.true_eq_false, Bool.false_eq_true, zb_t, zb_f, Nat.add_zero, Nat.zero_add, Nat.mul_zero, Nat.zero_mul, or_true, true_or, or_false, false_or, and_true, true_and, and_false, false_and, not_true_eq_false, not_false_eq_true, hk2, hn2]
      rw [show 1760 + 2 + 3 * r + l = 1762 + (3 * r + l) by omega]
/-- a row of the quotient -/
theorem r_makes_row {I0 K T N en mem T' n r into} {κ : Nat → Nat} {nx : Nat → Nat → Nat} (hN : N ≤ 10240) (hT : ∀ q, q < 3 * N → T q < N) (hκ : ∀ i, i < N → κ i < 10) (hnx : ∀ k, k < N → ∀ l, l < 3 → nx (κ k) l = κ (T (3 * k + l))) (hm : ∀ r, r < n → mem r < N) (hb : bf nx (fun r => κ (mem r)) T' n (3 * r)) (hn : n ≤ 10) (hr : r < n) (hQ : mQ I0 K T N κ en mem T' n (3 * r) (r + 1) I) :
    ∃ mem' T'' n' I', n ≤ n' ∧ n' ≤ 10 ∧ (∀ r, r < n → mem' r = mem r) ∧ (∀ r, r < n' → mem' r < N) ∧ (∀ q, q < 3 * r → T'' q = T' q) ∧ bf nx (fun r => κ (mem' r)) T'' n' (3 * (r + 1)) ∧ mQ I0 K T N κ en mem' T'' n' (3 * (r + 1)) (r + 1) I' ∧ jval (d + 2) 185 160 [.ref 117, .int (nI into), jjunk, .int (nI n), .int (nI 1760), .int (nI r), .int (nI (mem r)), .int (nI 0), jjunk] [] (jGs L g, I, J) = jval (d + 2) 185 108 [.ref 117, .int (nI into), jjunk, .int (nI n'), .int (nI 1760), .int (nI (r + 1)), jjunk, jjunk, jjunk] [] (jGs L g, I', J) := by
  obtain ⟨m1, T1, n1, I1, a1, b1, c1, d1, f1, g1, h1, e1⟩ := r_makes_in d L g J (l := 0) (into := into) hN hT hκ hnx hm hb hn hr (by omega) hQ
  obtain ⟨m2, T2, n2, I2, a2, b2, c2, d2, f2, g2, h2, e2⟩ := r_makes_in d L g J (l := 1) (into := into) hN hT hκ hnx d1 g1 b1 (by omega) (by omega) h1
  obtain ⟨m3, T3, n3, I3, a3, b3, c3, d3, f3, g3, h3, e3⟩ := r_makes_in d L g J (l := 2) (into := into) hN hT hκ hnx d2 g2 b2 (by omega) (by omega) h2
  rw [c1 r hr] at e2
  rw [c2 r (by omega), c1 r hr] at e3
  refine ⟨m3, T3, n3, I3, by omega, b3, fun s hs => by rw [c3 s (by omega), c2 s (by omega), c1 s hs], d3, fun q hq => by rw [f3 q (by omega), f2 q (by omega), f1 q (by omega)], g3, h3, ?_⟩
  rw [e1, e2, e3, e_TextValuesModel_makes_160, jif_t (show (3 : Int32) ≤ nI (2 + 1) by decide), nI_1]
theorem r_makes_out {I0 V k0 nx0 en K T N into} {κ : Nat → Nat} {nx : Nat → Nat → Nat} (hM : mKM I0 V k0 nx0 en) (hV : ∀ i, i < N → V (K i)) (hN : N ≤ 10240) (hT : ∀ q, q < 3 * N → T q < N) (hκ : ∀ i, i < N → κ i < 10) (hnx : ∀ k, k < N → ∀ l, l < 3 → nx (κ k) l = κ (T (3 * k + l))) (hi : into < 56) : ∀ fu r (mem T' : Nat → Nat) n (I : Nat → Nat → Int32), 10 ≤ r + fu → r ≤ n → n ≤ 10 → mem 0 = 0 → (∀ r, r < n → mem r < N) → bf nx (fun r => κ (mem r)) T' n (3 * r) → (∀ i, i < r → i ≤ tM T' (3 * i)) → mQ I0 K T N κ en mem T' n (3 * r) r I →
    ∃ mem' T'' n' I', n' ≤ 10 ∧ mem' 0 = 0 ∧ (∀ r, r < n' → mem' r < N) ∧ bf nx (fun r => κ (mem' r)) T'' n' (3 * n') ∧ (∀ i, i < n' → i ≤ tM T'' (3 * i)) ∧ mQ I0 K T N κ en mem' T'' n' (3 * n') n' I' ∧ jval (d + 6) 185 108 [.ref 117, .int (nI into), jjunk, .int (nI n), .int (nI 1760), .int (nI r), jjunk, jjunk, jjunk] [] (jGs L g, I, J) = some (none, (jGs L g, mCp (ju I' 119 1760 (nI n')) 55 into 32, J)) := by
  intro fu
  induction fu with
  | zero =>
    intro r mem T' n I hfu hrn hn hm0 hm hb hg hQ
    have : r = n := by omega
    subst this
    refine ⟨mem, T', r, I, hn, hm0, hm, hb, hg, hQ, ?_⟩
    rw [e_TextValuesModel_makes_108, jif_t (nI_le (Nat.le_refl _) (by omega)), jin_nI (by omega) (by omega), nI_c (by omega), cond_true, show (55 : Int32) = nI 55 from rfl, s_copies (d + 5) L g _ J (by omega) hi, jcV_some, e_TextValuesModel_makes_276]
  | succ fu ih =>
    intro r mem T' n I hfu hrn hn hm0 hm hb hg hQ
    by_cases hr : r = n
    · subst hr
      refine ⟨mem, T', r, I, hn, hm0, hm, hb, hg, hQ, ?_⟩
      rw [e_TextValuesModel_makes_108, jif_t (nI_le (Nat.le_refl _) (by omega)), jin_nI (by omega) (by omega), nI_c (by omega), cond_true, show (55 : Int32) = nI 55 from rfl, s_copies (d + 5) L g _ J (by omega) hi, jcV_some, e_TextValuesModel_makes_276]
    · obtain ⟨q1, q2, q3, q4, q5, q6, q7, q8⟩ := id hQ
      have hmr := hm r (by omega)
      have hmem := q3 r (by omega)
      have hkey := q1.2.2.1 _ hmr
      have hend := (hM.2.2.2 I q1.1 d L g J).2.2 (K (mem r)) (hV _ hmr)
      have hsix : kEm (fun s => en (K (mem s))) (r + 1) = kEm (fun s => en (K (mem s))) r ||| (if en (K (mem r)) = true then 2 ^ r else 0) := rfl
      have e0 : jval (d + 6) 185 108 [.ref 117, .int (nI into), jjunk, .int (nI n), .int (nI 1760), .int (nI r), jjunk, jjunk, jjunk] [] (jGs L g, I, J) = jval (d + 6) 185 160 [.ref 117, .int (nI into), jjunk, .int (nI n), .int (nI 1760), .int (nI r), .int (nI (mem r)), .int (nI 0), jjunk] [] (jGs L g, ju I 119 1761 (nI (kEm (fun s => en (K (mem s))) (r + 1))), J) := by
        rw [e_TextValuesModel_makes_108]
        simp (disch := omega) only [li_0, li_1, li_2, li_3, li_4, li_5, li_6, li_7, li_8, li_9, li_10, li_11, li_12, li_13, li_14, li_15, li_16, li_17, li_18, li_19, li_20, li_21, li_22, li_23, li_24, li_25, li_26, li_27, li_28, li_29, li_30, li_31, li_32, li_33, li_34, li_35, li_36, li_37, li_38, li_39, li_40, li_41, li_42, li_43, li_44, li_45, li_46, li_47, li_48, li_49, li_50, li_51, li_52, li_53, li_54, li_55, li_56, li_57, li_58, li_59, li_60, li_61, li_62, li_63, li_64, li_65, li_66, li_67, li_68, li_69, li_70, li_71, li_72, li_73, li_74, li_75, li_76, li_77, li_78, li_79, li_80, li_81, li_82, li_83, li_84, li_85, li_86, li_87, li_88, li_89, li_90, li_91, li_92, li_93, li_94, li_95, li_96, li_97, li_98, li_99, li_100, li_101, li_102, li_103, li_104, li_105, li_106, li_107, li_108, li_109, li_110, li_111, li_112, li_113, li_114, li_115, li_116, li_117, li_118, li_119, li_120, li_121, li_122, li_123, li_124, li_125, li_126, li_127, li_128, li_160, li_219, li_220, li_248, li_249, li_250, li_251, li_255, li_999, li_1000, li_1023, li_1024, li_10240, li_999999, li_1048576, li_1048575, nI_add, nI_mul, zi_div, zi_eq, zi_le, zi_lt, zi_in, zi_c, zi_sub, zi_ofN, zi_m1e, zi_m1e', zi_m1lt, zi_m1le, zi_ltm1, zi_lem1, zi_m1m1, jif_T, jif_F, jif_t, jif_f, zb_1, zb_0, zb_01, zb_ft, zn_01a, zn_01b, zi_tst, zi_pow, cond_true, jcI_some, jcV_some, jcJ_some, Nat.reduceAdd, Nat.reduceMul, Nat.reduceSub, reduceCtorEq, Bool.true_eq_false, Bool.false_eq_true, zb_t, zb_f, Nat.add_zero, Nat.zero_add, Nat.mul_zero, Nat.zero_mul, or_true, true_or, or_false, false_or, and_true, true_and, and_false, false_and, not_true_eq_false, not_false_eq_true, hmem, hkey, hend]
        rw [e_TextValuesModel_makes_144]
        cases hen : en (K (mem r))
        · simp (disch := omega) only [li_0, li_1, li_2, li_3, li_4, li_5, li_6, li_7, li_8, li_9, li_10, li_11, li_12, li_13, li_14, li_15, li_16, li_17, li_18, li_19, li_20, li_21, li_22, li_23, li_24, li_25, li_26, li_27, li_28, li_29, li_30, li_31, li_32, li_33, li_34, li_35, li_36, li_37, li_38, li_39, li_40, li_41, li_42, li_43, li_44, li_45, li_46, li_47, li_48, li_49, li_50, li_51, li_52, li_53, li_54, li_55, li_56, li_57, li_58, li_59, li_60, li_61, li_62, li_63, li_64, li_65, li_66, li_67, li_68, li_69, li_70, li_71, li_72, li_73, li_74, li_75, li_76, li_77, li_78, li_79, li_80, li_81, li_82, li_83, li_84, li_85, li_86, li_87, li_88, li_89, li_90, li_91, li_92, li_93, li_94, li_95, li_96, li_97, li_98, li_99, li_100, li_101, li_102, li_103, li_104, li_105, li_106, li_107, li_108, li_109, li_110, li_111, li_112, li_113, li_114, li_115, li_116, li_117, li_118, li_119, li_120, li_121, li_122, li_123, li_124, li_125, li_126, li_127, li_128, li_160, li_219, li_220, li_248, li_249, li_250, li_251, li_255, li_999, li_1000, li_1023, li_1024, li_10240, li_999999, li_1048576, li_1048575, nI_add, nI_mul, zi_div, zi_eq, zi_le, zi_lt, zi_in, zi_c, zi_sub, zi_ofN, zi_m1e, zi_m1e', zi_m1lt, zi_m1le, zi_ltm1, zi_lem1, zi_m1m1, jif_T, jif_F, jif_t, jif_f, zb_1, zb_0, zb_01, zb_ft, zn_01a, zn_01b, zi_tst, zi_pow, cond_true, jcI_some, jcV_some, jcJ_some, Nat.reduceAdd, Nat.reduceMul, Nat.reduceSub, reduceCtorEq, Bool.true_eq_false, Bool.false_eq_true, zb_t, zb_f, Nat.add_zero, Nat.zero_add, Nat.mul_zero, Nat.zero_mul, or_true, true_or, or_false, false_or, and_true, true_and, and_false, false_and, not_true_eq_false, not_false_eq_true]
          rw [e_TextValuesModel_makes_155]
          simp (disch := omega) only [li_0, li_1, li_2, li_3, li_4, li_5, li_6, li_7, li_8, li_9, li_10, li_11, li_12, li_13, li_14, li_15, li_16, li_17, li_18, li_19, li_20, li_21, li_22, li_23, li_24, li_25, li_26, li_27, li_28, li_29, li_30, li_31, li_32, li_33, li_34, li_35, li_36, li_37, li_38, li_39, li_40, li_41, li_42, li_43, li_44, li_45, li_46, li_47, li_48, li_49, li_50, li_51, li_52, li_53, li_54, li_55, li_56, li_57, li_58, li_59, li_60, li_61, li_62, li_63, li_64, li_65, li_66, li_67, li_68, li_69, li_70, li_71, li_72, li_73, li_74, li_75, li_76, li_77, li_78, li_79, li_80, li_81, li_82, li_83, li_84, li_85, li_86, li_87, li_88, li_89, li_90, li_91, li_92, li_93, li_94, li_95, li_96, li_97, li_98, li_99, li_100, li_101, li_102, li_103, li_104, li_105, li_106, li_107, li_108, li_109, li_110, li_111, li_112, li_113, li_114, li_115, li_116, li_117, li_118, li_119, li_120, li_121, li_122, li_123, li_124, li_125, li_126, li_127, li_128, li_160, li_219, li_220, li_248, li_249, li_250, li_251, li_255, li_999, li_1000, li_1023, li_1024, li_10240, li_999999, li_1048576, li_1048575, nI_add, nI_mul, zi_div, zi_eq, zi_le, zi_lt, zi_in, zi_c, zi_sub, zi_ofN, zi_m1e, zi_m1e', zi_m1lt, zi_m1le, zi_ltm1, zi_lem1, zi_m1m1, jif_T, jif_F, jif_t, jif_f, zb_1, zb_0, zb_01, zb_ft, zn_01a, zn_01b, zi_tst, zi_pow, cond_true, jcI_some, jcV_some, jcJ_some, Nat.reduceAdd, Nat.reduceMul, Nat.reduceSub, reduceCtorEq, Bool.true_eq_false, Bool.false_eq_true, zb_t, zb_f, Nat.add_zero, Nat.zero_add, Nat.mul_zero, Nat.zero_mul, or_true, true_or, or_false, false_or, and_true, true_and, and_false, false_and, not_true_eq_false, not_false_eq_true]
          rw [q6, nx_or, hsix, hen]
          rfl
        · simp (disch := omega) only [li_0, li_1, li_2, li_3, li_4, li_5, li_6, li_7, li_8, li_9, li_10, li_11, li_12, li_13, li_14, li_15, li_16, li_17, li_18, li_19, li_20, li_21, li_22, li_23, li_24, li_25, li_26, li_27, li_28, li_29, li_30, li_31, li_32, li_33, li_34, li_35, li_36, li_37, li_38, li_39, li_40, li_41, li_42, li_43, li_44, li_45, li_46, li_47, li_48, li_49, li_50, li_51, li_52, li_53, li_54, li_55, li_56, li_57, li_58, li_59, li_60, li_61, li_62, li_63, li_64, li_65, li_66, li_67, li_68, li_69, li_70, li_71, li_72, li_73, li_74, li_75, li_76, li_77, li_78, li_79, li_80, li_81, li_82, li_83, li_84, li_85, li_86, li_87, li_88, li_89, li_90, li_91, li_92, li_93, li_94, li_95, li_96, li_97, li_98, li_99, li_100, li_101, li_102, li_103, li_104, li_105, li_106, li_107, li_108, li_109, li_110, li_111, li_112, li_113, li_114, li_115, li_116, li_117, li_118, li_119, li_120, li_121, li_122, li_123, li_124, li_125, li_126, li_127, li_128, li_160, li_219, li_220, li_248, li_249, li_250, li_251, li_255, li_999, li_1000, li_1023, li_1024, li_10240, li_999999, li_1048576, li_1048575, nI_add, nI_mul, zi_div, zi_eq, zi_le, zi_lt, zi_in, zi_c, zi_sub, zi_ofN, zi_m1e, zi_m1e', zi_m1lt, zi_m1le, zi_ltm1, zi_lem1, zi_m1m1, jif_T, jif_F, jif_t, jif_f, zb_1, zb_0, zb_01, zb_ft, zn_01a, zn_01b, zi_tst, zi_pow, cond_true, jcI_some, jcV_some, jcJ_some, Nat.reduceAdd, Nat.reduceMul, Nat.reduceSub, reduceCtorEq, Bool.true_eq_false, Bool.false_eq_true, zb_t, zb_f, Nat.add_zero, Nat.zero_add, Nat.mul_zero, Nat.zero_mul, or_true, true_or, or_false, false_or, and_true, true_and, and_false, false_and, not_true_eq_false, not_false_eq_true]
          rw [e_TextValuesModel_makes_155]
          simp (disch := omega) only [li_0, li_1, li_2, li_3, li_4, li_5, li_6, li_7, li_8, li_9, li_10, li_11, li_12, li_13, li_14, li_15, li_16, li_17, li_18, li_19, li_20, li_21, li_22, li_23, li_24, li_25, li_26, li_27, li_28, li_29, li_30, li_31, li_32, li_33, li_34, li_35, li_36, li_37, li_38, li_39, li_40, li_41, li_42, li_43, li_44, li_45, li_46, li_47, li_48, li_49, li_50, li_51, li_52, li_53, li_54, li_55, li_56, li_57, li_58, li_59, li_60, li_61, li_62, li_63, li_64, li_65, li_66, li_67, li_68, li_69, li_70, li_71, li_72, li_73, li_74, li_75, li_76, li_77, li_78, li_79, li_80, li_81, li_82, li_83, li_84, li_85, li_86, li_87, li_88, li_89, li_90, li_91, li_92, li_93, li_94, li_95, li_96, li_97, li_98, li_99, li_100, li_101, li_102, li_103, li_104, li_105, li_106, li_107, li_108, li_109, li_110, li_111, li_112, li_113, li_114, li_115, li_116, li_117, li_118, li_119, li_120, li_121, li_122, li_123, li_124, li_125, li_126, li_127, li_128, li_160, li_219, li_220, li_248, li_249, li_250, li_251, li_255, li_999, li_1000, li_1023, li_1024, li_10240, li_999999, li_1048576, li_1048575, nI_add, nI_mul, zi_div, zi_eq, zi_le, zi_lt, zi_in, zi_c, zi_sub, zi_ofN, zi_m1e, zi_m1e', zi_m1lt, zi_m1le, zi_ltm1, zi_lem1, zi_m1m1, jif_T, jif_F, jif_t, jif_f, zb_1, zb_0, zb_01, zb_ft, zn_01a, zn_01b, zi_tst, zi_pow, cond_true, jcI_some, jcV_some, jcJ_some, Nat.reduceAdd, Nat.reduceMul, Nat.reduceSub, reduceCtorEq, Bool.true_eq_false, Bool.false_eq_true, zb_t, zb_f, Nat.add_zero, Nat.zero_add, Nat.mul_zero, Nat.zero_mul, or_true, true_or, or_false, false_or, and_true, true_and, and_false, false_and, not_true_eq_false, not_false_eq_true]
          rw [q6, nx_or, hsix, hen]
          rfl
      have hQ1 : mQ I0 K T N κ en mem T' n (3 * r) (r + 1) (ju I 119 1761 (nI (kEm (fun s => en (K (mem s))) (r + 1)))) :=
        ⟨mGr_js q1 (by omega), fun i hi => by rw [zu_a (by omega)]; exact q2 i hi, fun r hr => by rw [zu_a (by omega)]; exact q3 r hr, fun c hc => by rw [zu_a (by omega)]; exact q4 c hc, by rw [zu_k (by omega)]; exact q5, zu_at _ _ _ _, fun q hq => by rw [zu_k (by omega)]; exact q7 q hq, fun c hc1 hc2 => by rw [zu_k (by omega)]; exact q8 c hc1 hc2⟩
      obtain ⟨m1, T1, n1, I1, a1, b1, c1, d1, f1, g1, h1, e1⟩ := r_makes_row (d + 4) L g J (into := into) hN hT hκ hnx hm hb hn (by omega) hQ1
      rw [e0, e1]
      have hrr : r ≤ tM T' (3 * r) := by have := hb.2.2.2; omega
      exact ih (r + 1) m1 T1 n1 I1 (by omega) (by omega) b1 (by rw [c1 0 (by omega)]; exact hm0) d1 g1 (fun i hi => by
        rw [tM_congr (3 * i) (fun q hq => f1 q (by omega))]
        by_cases hir : i = r
        · subst hir; exact hrr
        · exact hg i (by omega)) h1
end MM

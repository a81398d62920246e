/-! THE REFERENCE: sorts, whole -/
set_option maxRecDepth 100000
/-- kinds, M of them, that tell apart only what differs, and ends from others -/
def kP (B : kA) (κ : Nat → Nat) (M : Nat) : Prop := M ≤ 10 ∧ (∀ i, i < B.1 → κ i < M) ∧ (∀ a, a < M → ∃ k, k < B.1 ∧ κ k = a) ∧ kFine B κ ∧ ∀ i, i < B.1 → ∀ j, j < B.1 → κ i = κ j → B.2.1 i = B.2.1 j
theorem bA_T {N e T q l} (hq : q < N) (hl : l < 3) : (bA N e T).2.2 q l = T (3 * q + l) := if_pos ⟨hq, hl⟩
theorem bA_e {N e T q} (hq : q < N) : (bA N e T).2.1 q = e q := if_pos hq
theorem sg_fine {N e T} {κ : Nat → Nat} (hB : kWf (bA N e T)) (hκ : ∀ i, i < N → κ i < 11) (hT : ∀ q, q < 3 * N → T q < N) (hf : kFine (bA N e T) κ) : kFine (bA N e T) (sg κ T) :=
  kFine_step hB hf (fun i hi j hj h1 h2 => (sg_iff hκ hT hi hj).mpr ⟨h1, fun l hl => by have := h2 l hl; rw [bA_T (N := N) hi hl, bA_T (N := N) hj hl] at this; exact this⟩)
theorem kP_step {N e T M' s ν} {κ : Nat → Nat} (hB : kWf (bA N e T)) (hκ : ∀ i, i < N → κ i < 11) (hT : ∀ q, q < 3 * N → T q < N) (hf : kFine (bA N e T) κ) (he : ∀ i, i < N → ∀ j, j < N → κ i = κ j → (bA N e T).2.1 i = (bA N e T).2.1 j) (hM : M' ≤ 10) (hn : nmb (sg κ T) N M' s ν) : kP (bA N e T) ν M' := by
  refine ⟨hM, fun i hi => (hn.2.1 i hi).1, fun a ha => ?_, kFine_step hB hf (fun i hi j hj h1 h2 => (nmb_iff hn hi hj).mpr ((sg_iff hκ hT hi hj).mpr ⟨h1, fun l hl => by have := h2 l hl; rw [bA_T (N := N) hi hl, bA_T (N := N) hj hl] at this; exact this⟩)), fun i hi j hj h => he i hi j hj ((sg_iff hκ hT hi hj).mp ((nmb_iff hn hi hj).mp h)).1⟩
  obtain ⟨k, k1, k2, -⟩ := hn.2.2 a ha
  exact ⟨k, k1, k2⟩
theorem nmb_more {f s ν κ : Nat → Nat} {n M M' : Nat} (h : nmb f n M' s ν) (hs : ∀ a, a < M → ∃ k, k < n ∧ κ k = a) (hr : ∀ i, i < n → ∀ j, j < n → ν i = ν j → κ i = κ j) : M ≤ M' := by
  apply Classical.byContradiction
  intro hlt
  have hex : ∀ a, ∃ k, a < M → k < n ∧ κ k = a := fun a => by
    by_cases ha : a < M
    · obtain ⟨k, k1, k2⟩ := hs a ha
      exact ⟨k, fun _ => ⟨k1, k2⟩⟩
    · exact ⟨0, fun h => absurd h ha⟩
  obtain ⟨r, hrp⟩ := Classical.axiomOfChoice hex
  obtain ⟨i, j, h1, h2, h3⟩ := kPigeon M' (fun a => ν (r a)) (fun a ha => (h.2.1 _ (hrp a (by omega)).1).1)
  have p1 := hrp i (by omega)
  have p2 := hrp j (by omega)
  have := hr _ p1.1 _ p2.1 h3
  omega
/-- stable kinds -/
def kSt (B : kA) (κ : Nat → Nat) : Prop := ∀ i, i < B.1 → ∀ j, j < B.1 → κ i = κ j → ∀ l, l < 3 → κ (B.2.2 i l) = κ (B.2.2 j l)
theorem kP_still {N e T M s ν} {κ : Nat → Nat} (hB : kWf (bA N e T)) (hP : kP (bA N e T) κ M) (hT : ∀ q, q < 3 * N → T q < N) (hn : nmb (sg κ T) N M s ν) : kSt (bA N e T) ν := by
  have hκ : ∀ i, i < N → κ i < 11 := fun i hi => by have := hP.2.1 i hi; have := hP.1; omega
  have hr : ∀ i, i < N → ∀ j, j < N → ν i = ν j → κ i = κ j := fun i hi j hj h => ((sg_iff hκ hT hi hj).mp ((nmb_iff hn hi hj).mp h)).1
  have hst := nmb_still hn hP.2.1 hP.2.2.1 hr
  intro i hi j hj h l hl
  have hi' : i < N := hi
  have hj' : j < N := hj
  have h1 := ((sg_iff hκ hT hi' hj').mp ((nmb_iff hn hi' hj').mp h)).2 l hl
  rw [bA_T hi' hl, bA_T hj' hl]
  exact hst _ (hT _ (by omega)) _ (hT _ (by omega)) h1
theorem kBig_eleven {N e T k s ν} {κ : Nat → Nat} (hB : kWf (bA N e T)) (hn : kNum (bA N e T)) (hκ : ∀ i, i < N → κ i < 11) (hT : ∀ q, q < 3 * N → T q < N) (hf : kFine (bA N e T) κ) (hk : k < N) (hm : nmb (sg κ T) k 10 s ν) (ha : ∀ a, a < 10 → s a ≠ sg κ T k) : kBig (kL (bA N e T) 0) := by
  have hex : ∀ a, ∃ i, a < 11 → i < N ∧ (if a = 10 then sg κ T i = sg κ T k else sg κ T i = s a) := fun a => by
    by_cases h10 : a = 10
    · exact ⟨k, fun _ => ⟨hk, by rw [if_pos h10]⟩⟩
    · by_cases h11 : a < 11
      · obtain ⟨i, i1, i2, -⟩ := hm.2.2 a (by omega)
        have := (hm.2.1 i i1).2
        rw [i2] at this
        exact ⟨i, fun _ => ⟨by omega, by rw [if_neg h10]; exact this.symm⟩⟩
      · exact ⟨0, fun h => absurd h h11⟩
  obtain ⟨c, hc⟩ := Classical.axiomOfChoice hex
  refine kBig_cls hB hn (sg_fine hB hκ hT hf) c (fun a ha => (hc a ha).1) (fun a ha' b hb' h => ?_)
  have p := (hc a ha').2
  have q := (hc b hb').2
  by_cases a10 : a = 10
  · by_cases b10 : b = 10
    · omega
    · rw [if_pos a10] at p
      rw [if_neg b10] at q
      rw [p, q] at h
      exact absurd h.symm (ha b (by omega))
  · by_cases b10 : b = 10
    · rw [if_neg a10] at p
      rw [if_pos b10] at q
      rw [p, q] at h
      exact absurd h (ha a (by omega))
    · rw [if_neg a10] at p
      rw [if_neg b10] at q
      rw [p, q] at h
      exact hm.1 a (by omega) b (by omega) h
section MM
variable (d L : Nat) (g : jG) {I : Nat → Nat → Int32} (J : Nat → Nat → Int64)
/-- one call of parts -/
theorem r_parts {I0 K T N e M} {κ : Nat → Nat} (hN : N ≤ 10240) (hT : ∀ q, q < 3 * N → T q < N) (hB : kWf (bA N e T)) (hn : kNum (bA N e T)) (hκ : ∀ i, i < N → κ i < 11) (hf : kFine (bA N e T) κ) (he : ∀ i, i < N → ∀ j, j < N → κ i = κ j → (bA N e T).2.1 i = (bA N e T).2.1 j) (hG : mGr I0 K T N I) (hc : ∀ i, i < N → I 127 i = nI (κ i)) :
    (∃ M' ν I', kP (bA N e T) ν M' ∧ (kP (bA N e T) κ M → M ≤ M' ∧ (M = M' → kSt (bA N e T) ν)) ∧ mGr I0 K T N I' ∧ (∀ i, i < N → I' 127 i = nI (ν i)) ∧ I' 117 27 = nI M' ∧ jcall (d + 2) 183 [.ref 117] (jGs L g, I, J) = some (some (.int (bI true)), (jGs L g, I', J))) ∨
    (∃ I', kBig (kL (bA N e T) 0) ∧ mGr I0 K T N I' ∧ jcall (d + 2) 183 [.ref 117] (jGs L g, I, J) = some (some (.int (bI false)), (jGs L g, I', J))) := by
  have e0 : jcall (d + 2) 183 [.ref 117] (jGs L g, I, J) = jval (d + 1) 183 7 [.ref 117, .int (nI 0), jjunk, jjunk] [] (jGs L g, ju I 117 27 (nI 0), J) := by
    rw [c_TextValuesModel_parts, e_TextValuesModel_parts_0]; rfl
  rw [e0]
  rcases r_parts_loop d L g J (I0 := I0) (K := K) hN hT hκ N 0 0 (fun _ => 0) (fun _ => 0) (ju I 117 27 (nI 0)) (by omega) (mGr_ju hG (by omega)) (fun i hi => by rw [zu_a (by omega)]; exact hc i hi) (nmb_0 _ _ _) (by omega) (zu_at _ _ _ _) (fun a ha => absurd ha (by omega)) (fun i hi => absurd hi (by omega)) with ⟨M', s', ν', I', h1, h2, h3, h4, h5, h6⟩ | ⟨k', s', ν', I', h1, h2, h3, h4, h5⟩
  · refine Or.inl ⟨M', ν', I', kP_step hB hκ hT hf he h1 h2, fun hP => ⟨?_, fun hMM => ?_⟩, h3, h4, h5, h6⟩
    · exact nmb_more h2 hP.2.2.1 (fun i hi j hj h => ((sg_iff hκ hT hi hj).mp ((nmb_iff h2 hi hj).mp h)).1)
    · subst hMM
      exact kP_still hB hP hT h2
  · exact Or.inr ⟨I', kBig_eleven hB hn hκ hT hf h1 h2 h3, h4, h5⟩
theorem r_sorts_loop {I0 K T N e} (hN : N ≤ 10240) (hT : ∀ q, q < 3 * N → T q < N) (hB : kWf (bA N e T)) (hn : kNum (bA N e T)) : ∀ n M h (κ : Nat → Nat) (I : Nat → Nat → Int32), 11 ≤ M + n → kP (bA N e T) κ M → h ≤ M → (h = M → kSt (bA N e T) κ) → mGr I0 K T N I → (∀ i, i < N → I 127 i = nI (κ i)) → I 117 27 = nI M →
    (∃ κ' M' I', kP (bA N e T) κ' M' ∧ kSt (bA N e T) κ' ∧ mGr I0 K T N I' ∧ (∀ i, i < N → I' 127 i = nI (κ' i)) ∧ jval (d + 2) 184 52 [.ref 117, .int (nI h), .int (bI true)] [] (jGs L g, I, J) = some (some (.int (bI true)), (jGs L g, I', J))) ∨
    (∃ I', kBig (kL (bA N e T) 0) ∧ mGr I0 K T N I' ∧ jval (d + 2) 184 52 [.ref 117, .int (nI h), .int (bI true)] [] (jGs L g, I, J) = some (some (.int (bI false)), (jGs L g, I', J))) := by
  intro n
  induction n with
  | zero => intro M h κ I hM hP; have := hP.1; omega
  | succ n ih =>
    intro M h κ I hM hP hh hst hG hc hm
    have hM10 := hP.1
    by_cases hhM : h = M
    · refine Or.inl ⟨κ, M, I, hP, hst hhM, hG, hc, ?_⟩
      rw [e_TextValuesModel_sorts_52, hm]
      simp (disch := omega) only [li_0, li_1, li_2, li_3, li_4, li_5, li_6, li_7, li_8, li_9, li_10, li_11, li_12, li_13, li_14, li_15, li_16, li_17, li_18, li_19, li_20, li_21, li_22, li_23, li_24, li_25, li_26, li_27, li_28, li_29, li_30, li_31, li_32, li_33, li_34, li_35, li_36, li_37, li_38, li_39, li_40, li_41, li_42, li_43, li_44, li_45, li_46, li_47, li_48, li_49, li_50, li_51, li_52, li_53, li_54, li_55, li_56, li_57, li_58, li_59, li_60, li_61, li_62, li_63, li_64, li_65, li_66, li_67, li_68, li_69, li_70, li_71, li_72, li_73, li_74, li_75, li_76, li_77, li_78, li_79, li_80, li_81, li_82, li_83, li_84, li_85, li_86, li_87, li_88, li_89, li_90, li_91, li_92, li_93, li_94, li_95, li_96, li_97, li_98, li_99, li_100, li_101, li_102, li_103, li_104, li_105, li_106, li_107, li_108, li_109, li_110, li_111, li_112, li_113, li_114, li_115, li_116, li_117, li_118, li_119, li_120, li_121, li_122, li_123, li_124, li_125, li_126, li_127, li_128, li_160, li_219, li_220, li_248, li_249, li_250, li_251, li_255, li_999, li_1000, li_1023, li_1024, li_10240, li_999999, li_1048576, li_1048575, nI_add, nI_mul, zi_div, zi_eq, zi_le, zi_lt, zi_in, zi_c, zi_sub, zi_ofN, zi_m1e, zi_m1e', zi_m1lt, zi_m1le, zi_ltm1, zi_lem1, zi_m1m1, jif_T, jif_F, jif_t, jif_f, zb_1, zb_0, zb_01, zb_ft, zn_01a, zn_01b, zi_tst, zi_pow, cond_true, jcI_some, jcV_some, jcJ_some, Nat.reduceAdd, Nat.reduceMul, Nat.reduceSub, reduceCtorEq, Bool.true_eq_false, Bool.false_eq_true, zb_t, zb_f, Nat.add_zero, Nat.zero_add, Nat.mul_zero, Nat.zero_mul, or_true, true_or, or_false, false_or, and_true, true_and, and_false, false_and, not_true_eq_false, not_false_eq_true]
      rw [e_TextValuesModel_sorts_77]
      simp (disch := omega) only [li_0, li_1, li_2, li_3, li_4, li_5, li_6, li_7, li_8, li_9, li_10, li_11, li_12, li_13, li_14, li_15, li_16, li_17, li_18, li_19, li_20, li_21, li_22, li_23, li_24, li_25, li_26, li_27, li_28, li_29, li_30, li_31, li_32, li_33, li_34, li_35, li_36, li_37, li_38, li_39, li_40, li_41, li_42, li_43, li_44, li_45, li_46, li_47, li_48, li_49, li_50, li_51, li_52, li_53, li_54, li_55, li_56, li_57, li_58, li_59, li_60, li_61, li_62, li_63, li_64, li_65, li_66, li_67, li_68, li_69, li_70, li_71, li_72, li_73, li_74, li_75, li_76, li_77, li_78, li_79, li_80, li_81, li_82, li_83, li_84, li_85, li_86, li_87, li_88, li_89, li_90, li_91, li_92, li_93, li_94, li_95, li_96, li_97, li_98, li_99, li_100, li_101, li_102, li_103, li_104, li_105, li_106, li_107, li_108, li_109, li_110, li_111, li_112, li_113, li_114, li_115, li_116, li_117, li_118, li_119, li_120, li_121, li_122, li_123, li_124, li_125, li_126, li_127, li_128, li_160, li_219, li_220, li_248, li_249, li_250, li_251, li_255, li_999, li_1000, li_1023, li_1024, li_10240, li_999999, li_1048576, li_1048575, nI_add, nI_mul, zi_div, zi_eq, zi_le, zi_lt, zi_in, zi_c, zi_sub, zi_ofN, zi_m1e, zi_m1e', zi_m1lt, zi_m1le, zi_ltm1, zi_lem1, zi_m1m1, jif_T, jif_F, jif_t, jif_f, zb_1, zb_0, zb_01, zb_ft, zn_01a, zn_01b, zi_tst, zi_pow, cond_true, jcI_some, jcV_some, jcJ_some, Nat.reduceAdd, Nat.reduceMul, Nat.reduceSub, reduceCtorEq, Bool.true_eq_false, Bool.false_eq_true, zb_t, zb_f, Nat.add_zero, Nat.zero_add, Nat.mul_zero, Nat.zero_mul, or_true, true_or, or_false, false_or, and_true, true_and, and_false, false_and, not_true_eq_false, not_false_eq_true]
    · have hκ : ∀ i, i < N → κ i < 11 := fun i hi => by have := hP.2.1 i hi; omega
      have e0 : ∀ (b : Bool) (I' : Nat → Nat → Int32), jcall (d + 2) 183 [.ref 117] (jGs L g, I, J) = some (some (.int (bI b)), (jGs L g, I', J)) → jval (d + 2) 184 52 [.ref 117, .int (nI h), .int (bI true)] [] (jGs L g, I, J) = jval (d + 2) 184 52 [.ref 117, .int (nI M), .int (bI b)] [] (jGs L g, I', J) := by
        intro b I' hcall
        rw [e_TextValuesModel_sorts_52, hcall, hm]
        simp (disch := omega) only [li_0, li_1, li_2, li_3, li_4, li_5, li_6, li_7, li_8, li_9, li_10, li_11, li_12, li_13, li_14, li_15, li_16, li_17, li_18, li_19, li_20, li_21, li_22, li_23, li_24, li_25, li_26, li_27, li_28, li_29, li_30, li_31, li_32, li_33, li_34, li_35, li_36, li_37, li_38, li_39, li_40, li_41, li_42, li_43, li_44, li_45, li_46, li_47, li_48, li_49, li_50, li_51, li_52, li_53, li_54, li_55, li_56, li_57, li_58, li_59, li_60, li_61, li_62, li_63, li_64, li_65, li_66, li_67, li_68, li_69, li_70, li_71, li_72, li_73, li_74, li_75, li_76, li_77, li_78, li_79, li_80, li_81, li_82, li_83, li_84, li_85, li_86, li_87, li_88, li_89, li_90, li_91, li_92, li_93, li_94, li_95, li_96, li_97, li_98, li_99, li_100, li_101, li_102, li_103, li_104, li_105, li_106, li_107, li_108, li_109, li_110, li_111, li_112, li_113, li_114, li_115, li_116, li_117, li_118, li_119, li_120, li_121, li_122, li_123, li_124, li_125, li_126, li_127, li_128, li_160, li_219, li_220, li_248, li_249, li_250, li_251, li_255, li_999, li_1000, li_1023, li_1024, li_10240, li_999999, li_1048576, li_1048575, nI_add, nI_mul, zi_div, zi_eq, zi_le, zi_lt, zi_in, zi_c, zi_sub, zi_ofN, zi_m1e, zi_m1e', zi_m1lt, zi_m1le, zi_ltm1, zi_lem1, zi_m1m1, jif_T, jif_F, jif_t, jif_f, zb_1, zb_0, zb_01, zb_ft, zn_01a, zn_01b, zi_tst, zi_pow, cond_true, jcI_some, jcV_some, jcJ_some, Nat.reduceAdd, Nat.reduceMul, Nat.reduceSub, reduceCtorEq, Bool.true_eq_false, Bool.false_eq_true, zb_t, zb_f, Nat.add_zero, Nat.zero_add, Nat.mul_zero, Nat.zero_mul, or_true, true_or, or_false, false_or, and_true, true_and, and_false, false_and, not_true_eq_false, not_false_eq_true]
        rw [e_TextValuesModel_sorts_73]
      rcases r_parts d L g J (M := M) hN hT hB hn hκ hP.2.2.2.1 hP.2.2.2.2 hG hc with ⟨M', ν, I', h1, h2, h3, h4, h5, h6⟩ | ⟨I', h1, h2, h3⟩
      · rw [e0 true I' h6]
        obtain ⟨h7, h8⟩ := h2 hP
        by_cases hMM : M = M'
        · subst hMM
          refine Or.inl ⟨ν, M, I', h1, h8 rfl, h3, h4, ?_⟩
          rw [e_TextValuesModel_sorts_52, h5]
          simp (disch := omega) only [li_0, li_1, li_2, li_3, li_4, li_5, li_6, li_7, li_8, li_9, li_10, li_11, li_12, li_13, li_14, li_15, li_16, li_17, li_18, li_19, li_20, li_21, li_22, li_23, li_24, li_25, li_26, li_27, li_28, li_29, li_30, li_31, li_32, li_33, li_34, li_35, li_36, li_37, li_38, li_39, li_40, li_41, li_42, li_43, li_44, li_45, li_46, li_47, li_48, li_49, li_50, li_51, li_52, li_53, li_54, li_55, li_56, li_57, li_58, li_59, li_60, li_61, li_62, li_63, li_64, li_65, li_66, li_67, li_68, li_69, li_70, li_71, li_72, li_73, li_74, li_75, li_76, li_77, li_78, li_79, li_80, li_81, li_82, li_83, li_84, li_85, li_86, li_87, li_88, li_89, li_90, li_91, li_92, li_93, li_94, li_95, li_96, li_97, li_98, li_99, li_100, li_101, li_102, li_103, li_104, li_105, li_106, li_107, li_108, li_109, li_110, li_111, li_112, li_113, li_114, li_115, li_116, li_117, li_118, li_119, li_120, li_121, li_122, li_123, li_124, li_125, li_126, li_127, li_128, li_160, li_219, li_220, li_248, li_249, li_250, li_251, li_255, li_999, li_1000, li_1023, li_1024, li_10240, li_999999, li_1048576, li_1048575, nI_add, nI_mul, zi_div, zi_eq, zi_le, zi_lt, zi_in, zi_c, zi_sub, zi_ofN, zi_m1e, zi_m1e', zi_m1lt, zi_m1le, zi_ltm1, zi_lem1, zi_m1m1, jif_T, jif_F, jif_t, jif_f, zb_1, zb_0, zb_01, zb_ft, zn_01a, zn_01b, zi_tst, zi_pow, cond_true, jcI_some, jcV_some, jcJ_some, Nat.reduceAdd, Nat.reduceMul, Nat.reduceSub, reduceCtorEq, Bool.true_eq_false, Bool.false_eq_true, zb_t, zb_f, Nat.add_zero, Nat.zero_add, Nat.mul_zero, Nat.zero_mul, or_true, true_or, or_false, false_or, and_true, true_and, and_false, false_and, not_true_eq_false, not_false_eq_true]
          rw [e_TextValuesModel_sorts_77]
          simp (disch := omega) only [li_0, li_1, li_2, li_3, li_4, li_5, li_6, li_7, li_8, li_9, li_10, li_11, li_12, li_13, li_14, li_15, li_16, li_17, li_18, li_19, li_20, li_21, li_22, li_23, li_24, li_25, li_26, li_27, li_28, li_29, li_30, li_31, li_32, li_33, li_34, li_35, li_36, li_37, li_38, li_39, li_40, li_41, li_42, li_43, li_44, li_45, li_46, li_47, li_48, li_49, li_50, li_51, li_52, li_53, li_54, li_55, li_56, li_57, li_58, li_59, li_60, li_61, li_62, li_63, li_64, li_65, li_66, li_67, li_68, li_69, li_70, li_71, li_72, li_73, li_74, li_75, li_76, li_77, li_78, li_79, li_80, li_81, li_82, li_83, li_84, li_85, li_86, li_87, li_88, li_89, li_90, li_91, li_92, li_93, li_94, li_95, li_96, li_97, li_98, li_99, li_100, li_101, li_102, li_103, li_104, li_105, li_106, li_107, li_108, li_109, li_110, li_111, li_112, li_113, li_114, li_115, li_116, li_117, li_118, li_119, li_120, li_121, li_122, li_123, li_124, li_125, li_126, li_127, li_128, li_160, li_219, li_220, li_248, li_249, li_250, li_251, li_255, li_999, li_1000, li_1023, li_1024, li_10240, li_999999, li_1048576, li_1048575, nI_add, nI_mul, zi_div, zi_eq, zi_le, zi_lt, zi_in, zi_c, zi_sub, zi_ofN, zi_m1e, zi_m1e', zi_m1lt, zi_m1le, zi_ltm1, zi_lem1, zi_m1m1, jif_T, jif_F, jif_t, jif_f, zb_1, zb_0, zb_01, zb_ft, zn_01a, zn_01b, zi_tst, zi_pow, cond_true, jcI_some, jcV_some, jcJ_some, Nat.reduceAdd, Nat.reduceMul, Nat.reduceSub, reduceCtorEq, Bool.true_eq_false, Bool.false_eq_true, zb_t, zb_f, Nat.add_zero, Nat.zero_add, Nat.mul_zero, Nat.zero_mul, or_true, true_or, or_false, false_or, and_true, true_and, and_false, false_and, not_true_eq_false, not_false_eq_true]
        · exact ih M' M ν I' (by omega) h1 h7 (fun e => absurd e hMM) h3 h4 h5
      · rw [e0 false I' h3]
        refine Or.inr ⟨I', h1, h2, ?_⟩
        rw [e_TextValuesModel_sorts_52]
        simp (disch := omega) only [li_0, li_1, li_2, li_3, li_4, li_5, li_6, li_7, li_8, li_9, li_10, li_11, li_12, li_13, li_14, li_15, li_16, li_17, li_18, li_19, li_20, li_21, li_22, li_23, li_24, li_25, li_26, li_27, li_28, li_29, li_30, li_31, li_32, li_33, li_34, li_35, li_36, li_37, li_38, li_39, li_40, li_41, li_42, li_43, li_44, li_45, li_46, li_47, li_48, li_49, li_50, li_51, li_52, li_53, li_54, li_55, li_56, li_57, li_58, li_59, li_60, li_61, li_62, li_63, li_64, li_65, li_66, li_67, li_68, li_69, li_70, li_71, li_72, li_73, li_74, li_75, li_76, li_77, li_78, li_79, li_80, li_81, li_82, li_83, li_84, li_85, li_86, li_87, li_88, li_89, li_90, li_91, li_92, li_93, li_94, li_95, li_96, li_97, li_98, li_99, li_100, li_101, li_102, li_103, li_104, li_105, li_106, li_107, li_108, li_109, li_110, li_111, li_112, li_113, li_114, li_115, li_116, li_117, li_118, li_119, li_120, li_121, li_122, li_123, li_124, li_125, li_126, li_127, li_128, li_160, li_219, li_220, li_248, li_249, li_250, li_251, li_255, li_999, li_1000, li_1023, li_1024, li_10240, li_999999, li_1048576, li_1048575, nI_add, nI_mul, zi_div, zi_eq, zi_le, zi_lt, zi_in, zi_c, zi_sub, zi_ofN, zi_m1e, zi_m1e', zi_m1lt, zi_m1le, zi_ltm1, zi_lem1, zi_m1m1, jif_T, jif_F, jif_t, jif_f, zb_1, zb_0, zb_01, zb_ft, zn_01a, zn_01b, zi_tst, zi_pow, cond_true, jcI_some, jcV_some, jcJ_some, Nat.reduceAdd, Nat.reduceMul, Nat.reduceSub, reduceCtorEq, Bool.true_eq_false, Bool.false_eq_true, zb_t, zb_f, Nat.add_zero, Nat.zero_add, Nat.mul_zero, Nat.zero_mul, or_true, true_or, or_false, false_or, and_true, true_and, and_false, false_and, not_true_eq_false, not_false_eq_true]
        rw [e_TextValuesModel_sorts_77]
        simp (disch := omega) only [li_0, li_1, li_2, li_3, li_4, li_5, li_6, li_7, li_8, li_9, li_10, li_11, li_12, li_13, li_14, li_15, li_16, li_17, li_18, li_19, li_20, li_21, li_22, li_23, li_24, li_25, li_26, li_27, li_28, li_29, li_30, li_31, li_32, li_33, li_34, li_35, li_36, li_37, li_38, li_39, li_40, li_41, li_42, li_43, li_44, li_45, li_46, li_47, li_48, li_49, li_50, li_51, li_52, li_53, li_54, li_55, li_56, li_57, li_58, li_59, li_60, li_61, li_62, li_63, li_64, li_65, li_66, li_67, li_68, li_69, li_70, li_71, li_72, li_73, li_74, li_75, li_76, li_77, li_78, li_79, li_80, li_81, li_82, li_83, li_84, li_85, li_86, li_87, li_88, li_89, li_90, li_91, li_92, li_93, li_94, li_95, li_96, li_97, li_98, li_99, li_100, li_101, li_102, li_103, li_104, li_105, li_106, li_107, li_108, li_109, li_110, li_111, li_112, li_113, li_114, li_115, li_116, li_117, li_118, li_119, li_120, li_121, li_122, li_123, li_124, li_125, li_126, li_127, li_128, li_160, li_219, li_220, li_248, li_249, li_250, li_251, li_255, li_999, li_1000, li_1023, li_1024, li_10240, li_999999, li_1048576, li_1048575, nI_add, nI_mul, zi_div, zi_eq, zi_le, zi_lt, zi_in, zi_c, zi_sub, zi_ofN, zi_m1e, zi_m1e', zi_m1lt, zi_m1le, zi_ltm1, zi_lem1, zi_m1m1, jif_T, jif_F, jif_t, jif_f, zb_1, zb_0, zb_01, zb_ft, zn_01a, zn_01b, zi_tst, zi_pow, cond_true, jcI_some, jcV_some, jcJ_some, Nat.reduceAdd, Nat.reduceMul, Nat.reduceSub, reduceCtorEq, Bool.true_eq_false, Bool.false_eq_true, zb_t, zb_f, Nat.add_zero, Nat.zero_add, Nat.mul_zero, Nat.zero_mul, or_true, true_or, or_false, false_or, and_true, true_and, and_false, false_and, not_true_eq_false, not_false_eq_true]
theorem r_sorts_first {I0 V k0 nx en K T N} (hM : mKM I0 V k0 nx en) (hN : N ≤ 10240) (hV : ∀ i, i < N → V (K i)) : ∀ n k (I : Nat → Nat → Int32), k + n = N → mGr I0 K T N I → (∀ i, i < k → I 127 i = nI (if en (K i) = true then 1 else 0)) → ∃ I', mGr I0 K T N I' ∧ (∀ i, i < N → I' 127 i = nI (if en (K i) = true then 1 else 0)) ∧ jval (d + 6) 184 2 [.ref 117, .int (nI k), jjunk] [] (jGs L g, I, J) = jcI (jcall (d + 6) 183 [.ref 117] (jGs L g, ju I' 117 27 (nI 0), J)) (fun r2 S1 => jval (d + 6) 184 51 [.ref 117, .int (nI 0), jjunk] [.int r2] S1) := by
  intro n
  induction n with
  | zero =>
    intro k I hk hG hc
    refine ⟨I, hG, fun i hi => hc i (by omega), ?_⟩
    rw [e_TextValuesModel_sorts_2, hG.2.1, jif_t (nI_le (by omega) (by omega))]
    rfl
  | succ n ih =>
    intro k I hk hG hc
    obtain ⟨I', h1, h2, h3⟩ := ih (k + 1) (ju I 127 k (nI (if en (K k) = true then 1 else 0))) (by omega) (mGr_ju hG (by omega)) (fun i hi => by
      by_cases hik : i = k
      · rw [hik, zu_at]
      · rw [zu_k hik]; exact hc i (by omega))
    refine ⟨I', h1, h2, ?_⟩
    rw [← h3, e_TextValuesModel_sorts_2, hG.2.1, jif_f (nI_ge (by omega) (by omega)), jin_nI (by omega) (by omega), nI_c (by omega), hG.2.2.1 k (by omega), cond_true, (hM.2.2.2 I hG.1 d L g J).2.2 (K k) (hV k (by omega)), jcI_some, e_TextValuesModel_sorts_25]
    cases hb : en (K k)
    · simp (disch := omega) only [li_0, li_1, li_2, li_3, li_4, li_5, li_6, li_7, li_8, li_9, li_10, li_11, li_12, li_13, li_14, li_15, li_16, li_17, li_18, li_19, li_20, li_21, li_22, li_23, li_24, li_25, li_26, li_27, li_28, li_29, li_30, li_31, li_32, li_33, li_34, li_35, li_36, li_37, li_38, li_39, li_40, li_41, li_42, li_43, li_44, li_45, li_46, li_47, li_48, li_49, li_50, li_51, li_52, li_53, li_54, li_55, li_56, li_57, li_58, li_59, li_60, li_61, li_62, li_63, li_64, li_65, li_66, li_67, li_68, li_69, li_70, li_71, li_72, li_73, li_74, li_75, li_76, li_77, li_78, li_79, li_80, li_81, li_82, li_83, li_84, li_85, li_86, li_87, li_88, li_89, li_90, li_91, li_92, li_93, li_94, li_95, li_96, li_97, li_98, li_99, li_100, li_101, li_102, li_103, li_104, li_105, li_106, li_107, li_108, li_109, li_110, li_111, li_112, li_113, li_114, li_115, li_116, li_117, li_118, li_119, li_120, li_121, li_122, li_123, li_124, li_125, li_126, li_127, li_128, li_160, li_219, li_220, li_248, li_249, li_250, li_251, li_255, li_999, li_1000, li_1023, li_1024, li_10240, li_999999, li_1048576, li_1048575, nI_add, nI_mul, zi_div, zi_eq, zi_le, zi_lt, zi_in, zi_c, zi_sub, zi_ofN, zi_m1e, zi_m1e', zi_m1lt, zi_m1le, zi_ltm1, zi_lem1, zi_m1m1, jif_T, jif_F, jif_t, jif_f, zb_1, zb_0, zb_01, zb_ft, zn_01a, zn_01b, zi_tst, zi_pow, cond_true, jcI_some, jcV_some, jcJ_some, Nat.reduceAdd, Nat.reduceMul, Nat.reduceSub, reduceCtorEq, Bool.true_eq_false, Bool.false_eq_true, zb_t, zb_f, Nat.add_zero, Nat.zero_add, Nat.mul_zero, Nat.zero_mul, or_true, true_or, or_false, false_or, and_true, true_and, and_false, false_and, not_true_eq_false, not_false_eq_true]
      rw [e_TextValuesModel_sorts_33]
      simp (disch := omega) only [li_0, li_1, li_2, li_3, li_4, li_5, li_6, li_7, li_8, li_9, li_10, li_11, li_12, li_13, li_14, li_15, li_16, li_17, li_18, li_19, li_20, li_21, li_22, li_23, li_24, li_25, li_26, li_27, li_28, li_29, li_30, li_31, li_32, li_33, li_34, li_35, li_36, li_37, li_38, li_39, li_40, li_41, li_42, li_43, li_44, li_45, li_46, li_47, li_48, li_49, li_50, li_51, li_52, li_53, li_54, li_55, li_56, li_57, li_58, li_59, li_60, li_61, li_62, li_63, li_64, li_65, li_66, li_67, li_68, li_69, li_70, li_71, li_72, li_73, li_74, li_75, li_76, li_77, li_78, li_79, li_80, li_81, li_82, li_83, li_84, li_85, li_86, li_87, li_88, li_89, li_90, li_91, li_92, li_93, li_94, li_95, li_96, li_97, li_98, li_99, li_100, li_101, li_102, li_103, li_104, li_105, li_106, li_107, li_108, li_109, li_110, li_111, li_112, li_113, li_114, li_115, li_116, li_117, li_118, li_119, li_120, li_121, li_122, li_123, li_124, li_125, li_126, li_127, li_128, li_160, li_219, li_220, li_248, li_249, li_250, li_251, li_255, li_999, li_1000, li_1023, li_1024, li_10240, li_999999, li_1048576, li_1048575, nI_add, nI_mul, zi_div, zi_eq, zi_le, zi_lt, zi_in, zi_c, zi_sub, zi_ofN, zi_m1e, zi_m1e', zi_m1lt, zi_m1le, zi_ltm1, zi_lem1, zi_m1m1, jif_T, jif_F, jif_t, jif_f, zb_1, zb_0, zb_01, zb_ft, zn_01a, zn_01b, zi_tst, zi_pow, cond_true, jcI_some, jcV_some, jcJ_some, Nat.reduceAdd, Nat.reduceMul, Nat.reduceSub, reduceCtorEq, Bool.true_eq_false, Bool.false_eq_true, zb_t, zb_f, Nat.add_zero, Nat.zero_add, Nat.mul_zero, Nat.zero_mul, or_true, true_or, or_false, false_or, and_true, true_and, and_false, false_and, not_true_eq_false, not_false_eq_true]
      rfl
    · simp (disch := omega) only [li_0, li_1, li_2, li_3, li_4, li_5, li_6, li_7, li_8, li_9, li_10, li_11, li_12, li_13, li_14, li_15, li_16, li_17, li_18, li_19, li_20, li_21, li_22, li_23, li_24, li_25, li_26, li_27, li_28, li_29, li_30, li_31, li_32, li_33, li_34, li_35, li_36, li_37, li_38, li_39, li_40, li_41, li_42, li_43, li_44, li_45, li_46, li_47, li_48, li_49, li_50, li_51, li_52, li_53, li_54, li_55, li_56, li_57, li_58, li_59, li_60, li_61, li_62, li_63, li_64, li_65, li_66, li_67, li_68, li_69, li_70, li_71, li_72, li_73, li_74, li_75, li_76, li_77, li_78, li_79, li_80, li_81, li_82, li_83, li_84, li_85, li_86, li_87, li_88, li_89, li_90, li_91, li_92, li_93, li_94, li_95, li_96, li_97, li_98, li_99, li_100, li_101, li_102, li_103, li_104, li_105, li_106, li_107, li_108, li_109, li_110, li_111, li_112, li_113, li_114, li_115, li_116, li_117, li_118, li_119, li_120, li_121, li_122, li_123, li_124, li_125, li_126, li_127, li_128, li_160, li_219, li_220, li_248, li_249, li_250, li_251, li_255, li_999, li_1000, li_1023, li_1024, li_10240, li_999999, li_1048576, li_1048575, nI_add, nI_mul, zi_div, zi_eq, zi_le, zi_lt, zi_in, zi_c, zi_sub, zi_ofN, zi_m1e, zi_m1e', zi_m1lt, zi_m1le, zi_ltm1, zi_lem1, zi_m1m1, jif_T, jif_F, jif_t, jif_f, zb_1, zb_0, zb_01, zb_ft, zn_01a, zn_01b, zi_tst, zi_pow, cond_true, jcI_some, jcV_some, jcJ_some, Nat.reduceAdd, Nat.reduceMul, Nat.reduceSub, reduceCtorEq, Bool.true_eq_false, Bool.false_eq_true, zb_t, zb_f, Nat.add_zero, Nat.zero_add, Nat.mul_zero, Nat.zero_mul, or_true, true_or, or_false, false_or, and_true, true_and, and_false, false_and, not_true_eq_false, not_false_eq_true]
      rw [e_TextValuesModel_sorts_33]
      simp (disch := omega) only [li_0, li_1, li_2, li_3, li_4, li_5, li_6, li_7, li_8, li_9, li_10, li_11, li_12, li_13, li_14, li_15, li_16, li_17, li_18, li_19, li_20, li_21, li_22, li_23, li_24, li_25, li_26, li_27, li_28, li_29, li_30, li_31, li_32, li_33, li_34, li_35, li_36, li_37, li_38, li_39, li_40, li_41, li_42, li_43, li_44, li_45, li_46, li_47, li_48, li_49, li_50, li_51, li_52, li_53, li_54, li_55, li_56, li_57, li_58, li_59, li_60, li_61, li_62, li_63, li_64, li_65, li_66, li_67, li_68, li_69, li_70, li_71, li_72, li_73, li_74, li_75, li_76, li_77, li_78, li_79, li_80, li_81, li_82, li_83, li_84, li_85, li_86, li_87, li_88, li_89, li_90, li_91, li_92, li_93, li_94, li_95, li_96, li_97, li_98, li_99, li_100, li_101, li_102, li_103, li_104, li_105, li_106, li_107, li_108, li_109, li_110, li_111, li_112, li_113, li_114, li_115, li_116, li_117, li_118, li_119, li_120, li_121, li_122, li_123, li_124, li_125, li_126, li_127, li_128, li_160, li_219, li_220, li_248, li_249, li_250, li_251, li_255, li_999, li_1000, li_1023, li_1024, li_10240, li_999999, li_1048576, li_1048575, nI_add, nI_mul, zi_div, zi_eq, zi_le, zi_lt, zi_in, zi_c, zi_sub, zi_ofN, zi_m1e, zi_m1e', zi_m1lt, zi_m1le, zi_ltm1, zi_lem1, zi_m1m1, jif_T, jif_F, jif_t, jif_f, zb_1, zb_0, zb_01, zb_ft, zn_01a, zn_01b, zi_tst, zi_pow, cond_true, jcI_some, jcV_some, jcJ_some, Nat.reduceAdd, Nat.reduceMul, Nat.reduceSub, reduceCtorEq, Bool.true_eq_false, Bool.false_eq_true, zb_t, zb_f, Nat.add_zero, Nat.zero_add, Nat.mul_zero, Nat.zero_mul, or_true, true_or, or_false, false_or, and_true, true_and, and_false, false_and, not_true_eq_false, not_false_eq_true]
      rfl
theorem r_sorts {I0 V k0 nx en K T N} (hM : mKM I0 V k0 nx en) (hN : N ≤ 10240) (hV : ∀ i, i < N → V (K i)) (hbf : bf nx K T N (3 * N)) (hg : ∀ i, i < N → i ≤ tM T (3 * i)) (hG : mGr I0 K T N I) :
    (∃ κ M I', kP (bA N (fun i => en (K i)) T) κ M ∧ kSt (bA N (fun i => en (K i)) T) κ ∧ mGr I0 K T N I' ∧ (∀ i, i < N → I' 127 i = nI (κ i)) ∧ jcall (d + 7) 184 [.ref 117] (jGs L g, I, J) = some (some (.int (bI true)), (jGs L g, I', J))) ∨
    (∃ I', kBig (kL (bA N (fun i => en (K i)) T) 0) ∧ mGr I0 K T N I' ∧ jcall (d + 7) 184 [.ref 117] (jGs L g, I, J) = some (some (.int (bI false)), (jGs L g, I', J))) := by
  have hT : ∀ q, q < 3 * N → T q < N := fun q hq => (hbf.2.1 q hq).1
  have hB := bA_wf (e := fun i => en (K i)) hbf
  have hn := bA_num (e := fun i => en (K i)) hbf hg
  have h0N : 0 < N := hB.1
  obtain ⟨I1, g1, c1, e1⟩ := r_sorts_first d L g J hM hN hV N 0 I (by omega) hG (fun i hi => absurd hi (by omega))
  have e0 : jcall (d + 7) 184 [.ref 117] (jGs L g, I, J) = jval (d + 6) 184 2 [.ref 117, .int (nI 0), jjunk] [] (jGs L g, I, J) := by
    rw [c_TextValuesModel_sorts, e_TextValuesModel_sorts_0]; rfl
  rw [e0, e1]
  have hcl : ∀ i, i < N → (fun i => if en (K i) = true then 1 else 0) i < 11 := fun i _ => by dsimp only; split <;> omega
  have hfi : kFine (bA N (fun i => en (K i)) T) (fun i => if en (K i) = true then 1 else 0) := by
    intro i hi j hj h
    refine ⟨[], kW_nil, fun hh => h ?_⟩
    have hh' : (bA N (fun i => en (K i)) T).2.1 i = (bA N (fun i => en (K i)) T).2.1 j := hh
    rw [bA_e (N := N) hi, bA_e (N := N) hj] at hh'
    dsimp only
    rw [hh']
  have hen : ∀ i, i < N → ∀ j, j < N → (fun i => if en (K i) = true then 1 else 0) i = (fun i => if en (K i) = true then 1 else 0) j → (bA N (fun i => en (K i)) T).2.1 i = (bA N (fun i => en (K i)) T).2.1 j := by
    intro i hi j hj h
    rw [bA_e (N := N) hi, bA_e (N := N) hj]
    dsimp only at h
    cases h1 : en (K i) <;> cases h2 : en (K j) <;> rw [h1, h2] at h <;> first | rfl | (exact absurd h (by decide))
  rcases r_parts (d + 4) L g J (M := 0) (κ := fun i => if en (K i) = true then 1 else 0) (I0 := I0) (I := ju I1 117 27 (nI 0)) (K := K) hN hT hB hn hcl hfi hen (mGr_ju g1 (by omega)) (fun i hi => by rw [zu_a (by omega)]; exact c1 i hi) with ⟨M', ν, I2, h1, h2, h3, h4, h5, h6⟩ | ⟨I2, h1, h2, h3⟩
  · rw [h6, jcI_some, e_TextValuesModel_sorts_51]
    have hM0 : 0 < M' := by have := h1.2.1 0 h0N; omega
    rcases r_sorts_loop (d + 4) L g J hN hT hB hn 11 M' 0 ν I2 (by omega) h1 (by omega) (fun e => by omega) h3 h4 h5 with ⟨κ', M2, I3, q1, q2, q3, q4, q5⟩ | ⟨I3, q1, q2, q3⟩
    · exact Or.inl ⟨κ', M2, I3, q1, q2, q3, q4, q5⟩
    · exact Or.inr ⟨I3, q1, q2, q3⟩
  · refine Or.inr ⟨I2, h1, h2, ?_⟩
    rw [h3, jcI_some, e_TextValuesModel_sorts_51, e_TextValuesModel_sorts_52]
    simp (disch := omega) only [li_0, li_1, li_2, li_3, li_4, li_5, li_6, li_7, li_8, li_9, li_10, li_11, li_12, li_13, li_14, li_15, li_16, li_17, li_18, li_19, li_20, li_21, li_22, li_23, li_24, li_25, li_26, li_27, li_28, li_29, li_30, li_31, li_32, li_33, li_34, li_35, li_36, li_37, li_38, li_39, li_40, li_41, li_42, li_43, li_44, li_45, li_46, li_47, li_48, li_49, li_50, li_51, li_52, li_53, li_54, li_55, li_56, li_57, li_58, li_59, li_60, li_61, li_62, li_63, li_64, li_65, li_66, li_67, li_68, li_69, li_70, li_71, li_72, li_73, li_74, li_75, li_76, li_77, li_78, li_79, li_80, li_81, li_82, li_83, li_84, li_85, li_86, li_87, li_88, li_89, li_90, li_91, li_92, li_93, li_94, li_95, li_96, li_97, li_98, li_99, li_100, li_101, li_102, li_103, li_104, li_105, li_106, li_107, li_108, li_109, li_110, li_111, li_112, li_113, li_114, li_115, li_116, li_117, li_118, li_119, li_120, li_121, li_122, li_123, li_124, li_125, li_126, li_127, li_128, li_160, li_219, li_220, li_248, li_249, li_250, li_251, li_255, li_999, li_1000, li_1023, li_1024, li_10240, li_999999, li_1048576, li_1048575, nI_add, nI_mul, zi_div, zi_eq, zi_le, zi_lt, zi_in, zi_c, zi_sub, zi_ofN, zi_m1e, zi_m1e', zi_m1lt, zi_m1le, zi_ltm1, zi_lem1, zi_m1m1, jif_T, jif_F, jif_t, jif_f, zb_1, zb_0, zb_01, zb_ft, zn_01a, zn_01b, zi_tst, zi_pow, cond_true, jcI_some, jcV_some, jcJ_some, Nat.reduceAdd, Nat.reduceMul, Nat.reduceSub, reduceCtorEq, Bool.true_eq_false, Bool.false_eq_true, zb_t, zb_f, Nat.add_zero, Nat.zero_add, Nat.mul_zero, Nat.zero_mul, or_true, true_or, or_false, false_or, and_true, true_and, and_false, false_and, not_true_eq_false, not_false_eq_true]
    rw [e_TextValuesModel_sorts_77]
    simp (disch := omega) only [li_0, li_1, li_2, li_3, li_4, li_5, li_6, li_7, li_8, li_9, li_10, li_11, li_12, li_13, li_14, li_15, li_16, li_17, li_18, li_19, li_20, li_21, li_22, li_23, li_24, li_25, li_26, li_27, li_28, li_29, li_30, li_31, li_32, li_33, li_34, li_35, li_36, li_37, li_38, li_39, li_40, li_41, li_42, li_43, li_44, li_45, li_46, li_47, li_48, li_49, li_50, li_51, li_52, li_53, li_54, li_55, li_56, li_57, li_58, li_59, li_60, li_61, li_62, li_63, li_64, li_65, li_66, li_67, li_68, li_69, li_70, li_71, li_72, li_73, li_74, li_75, li_76, li_77, li_78, li_79, li_80, li_81, li_82, li_83, li_84, li_85, li_86, li_87, li_88, li_89, li_90, li_91, li_92, li_93, li_94, li_95, li_96, li_97, li_98, li_99, li_100, li_101, li_102, li_103, li_104, li_105, li_106, li_107, li_108, li_109, li_110, li_111, li_112, li_113, li_114, li_115, li_116, li_117, li_118, li_119, li_120, li_121, li_122, li_123, li_124, li_125, li_126, li_127, li_128, li_160, li_219, li_220, li_248, li_249, li_250, li_251, li_255, li_999, li_1000, li_1023, li_1024, li_10240, li_999999, li_1048576, li_1048575, nI_add, nI_mul, zi_div, zi_eq, zi_le, zi_lt, zi_in, zi_c, zi_sub, zi_ofN, zi_m1e, zi_m1e', zi_m1lt, zi_m1le, zi_ltm1, zi_lem1, zi_m1m1, jif_T, jif_F, jif_t, jif_f, zb_1, zb_0, zb_01, zb_ft, zn_01a, zn_01b, zi_tst, zi_pow, cond_true, jcI_some, jcV_some, jcJ_some, Nat.reduceAdd, Nat.reduceMul, Nat.reduceSub, reduceCtorEq, Bool.true_eq_false, Bool.false_eq_true, zb_t, zb_f, Nat.add_zero, Nat.zero_add, Nat.mul_zero, Nat.zero_mul, or_true, true_or, or_false, false_or, and_true, true_and, and_false, false_and, not_true_eq_false, not_false_eq_true]
end MM

/-! THE REFERENCE: makes, whole -/
set_option maxRecDepth 100000
/-- what makes leaves as it was -/
def mFm (I I' : Nat → Nat → Int32) (into : Nat) : Prop := (∀ a j, ¬ mScr a j → a ≠ 119 → I' a j = I a j) ∧ (∀ j, j < 1760 → ¬ (32 * into ≤ j ∧ j < 32 * into + 32) → I' 119 j = I 119 j) ∧ ∀ y, y < 10240 → I' 125 y = 0
section MM
variable (d L : Nat) (g : jG) {I : Nat → Nat → Int32} (J : Nat → Nat → Int64)
theorem r_makes_33 {I0 K T N into} {κ : Nat → Nat} : ∀ n j (I : Nat → Nat → Int32), j + n = 10 → mGr I0 K T N I → (∀ i, i < N → I 127 i = nI (κ i)) → (∀ c, c < j → I 132 c = -1) → ∃ I', mGr I0 K T N I' ∧ (∀ i, i < N → I' 127 i = nI (κ i)) ∧ (∀ c, c < 10 → I' 132 c = -1) ∧ jval d 185 33 [.ref 117, .int (nI into), jjunk, .int (nI j), jjunk, jjunk, jjunk, jjunk, jjunk] [] (jGs L g, I, J) = jval d 185 33 [.ref 117, .int (nI into), jjunk, .int (nI 10), jjunk, jjunk, jjunk, jjunk, jjunk] [] (jGs L g, I', J) := by
  intro n
  induction n with
  | zero =>
    intro j I hj hG hc hn
    have : j = 10 := by omega
    subst this
    exact ⟨I, hG, hc, hn, rfl⟩
  | succ n ih =>
    intro j I hj hG hc hn
    obtain ⟨I', h1, h2, h3, h4⟩ := ih (j + 1) (ju I 132 j (-1)) (by omega) (mGr_ju hG (by omega)) (fun i hi => by rw [zu_a (by omega)]; exact hc i hi) (fun c hc' => by
      by_cases hcj : c = j
      · rw [hcj, zu_at]
      · rw [zu_k hcj]; exact hn c (by omega))
    refine ⟨I', h1, h2, h3, ?_⟩
    rw [← h4, e_TextValuesModel_makes_33, jif_f (show ¬ (10 : Int32) ≤ nI j from nI_ge (a := j) (b := 10) (by omega) (by omega)), jin_nI (by omega) (by omega), nI_c (by omega), cond_true, nI_1]
theorem r_makes_81 {I0 K T N into n} : ∀ m c (I : Nat → Nat → Int32), c + m = 32 → mGr I0 K T N I → (∀ c', c' < c → I 119 (1760 + c') = 0) → ∃ I', mGr I0 K T N I' ∧ I' 127 = I 127 ∧ I' 132 = I 132 ∧ I' 133 = I 133 ∧ (∀ c, c < 32 → I' 119 (1760 + c) = 0) ∧ jval d 185 81 [.ref 117, .int (nI into), jjunk, .int (nI n), .int (nI 1760), .int (nI c), jjunk, jjunk, jjunk] [] (jGs L g, I, J) = jval d 185 108 [.ref 117, .int (nI into), jjunk, .int (nI n), .int (nI 1760), .int (nI 0), jjunk, jjunk, jjunk] [] (jGs L g, I', J) := by
  intro m
  induction m with
  | zero =>
    intro c I hc hG h0
    have : c = 32 := by omega
    subst this
    refine ⟨I, hG, rfl, rfl, rfl, h0, ?_⟩
    rw [e_TextValuesModel_makes_81, jif_t (show (32 : Int32) ≤ nI 32 by decide)]
    rfl
  | succ m ih =>
    intro c I hc hG h0
    obtain ⟨I', h1, h2, h3, h4, h5, h6⟩ := ih (c + 1) (ju I 119 (1760 + c) 0) (by omega) (mGr_js hG (by omega)) (fun c' hc' => by
      by_cases hcc : c' = c
      · rw [hcc, zu_at]
      · rw [zu_k (by omega)]; exact h0 c' (by omega))
    refine ⟨I', h1, h2.trans (ju_n (by omega)), h3.trans (ju_n (by omega)), h4.trans (ju_n (by omega)), h5, ?_⟩
    rw [← h6, e_TextValuesModel_makes_81, jif_f (show ¬ (32 : Int32) ≤ nI c from nI_ge (a := c) (b := 32) (by omega) (by omega)), nI_add, jin_nI (by omega) (by omega), nI_c (by omega), cond_true, nI_1]
theorem r_makes {V k0 nx en F into inst} (hM : mKM I V k0 nx en) (hP : ∀ y, y < 10240 → I 125 y = 0) (hi : into < 55) (hF : (inst = -1 ∧ F = kAll) ∨ ∃ b, b < 55 ∧ inst = nI b ∧ mR I b F) : ∃ I', mFm I I' into ∧ mR I' into ((kMk (kG nx en k0)).getD F) ∧ jcall (d + 8) 185 [.ref 117, .int (nI into), .int inst] (jGs L g, I, J) = some (none, (jGs L g, I', J)) := by
  obtain ⟨K, T, N, I1, hm, e1⟩ := r_meets d L g J hM hP
  obtain ⟨m1, m2, m3, m4, m5, m6, m7, m8, m9, m10, m11⟩ := hm
  have hG : mGr I K T N I1 := ⟨m1, m2, fun i hi => (m5 i hi).2, m8, m9⟩
  have hV : ∀ i, i < N → V (K i) := fun i hi => (m5 i hi).1
  have hT : ∀ q, q < 3 * N → T q < N := fun q hq => (m6.2.1 q hq).1
  have hB := bA_wf (e := fun i => en (K i)) m6
  have h0N : 0 < N := hB.1
  have hL : ∀ w, kW w → kL (bA N (fun i => en (K i)) T) 0 w = kG nx en k0 w := fun w hw => by rw [← m4]; exact bA_L m6 (fun i _ => rfl) w 0 h0N hw
  have e0 : jcall (d + 8) 185 [.ref 117, .int (nI into), .int inst] (jGs L g, I, J) = jcI (jcall (d + 7) 184 [.ref 117] (jGs L g, I1, J)) (fun r2 S1 => jval (d + 7) 185 8 [.ref 117, .int (nI into), .int inst, jjunk, jjunk, jjunk, jjunk, jjunk, jjunk] [.int r2] S1) := by
    rw [c_TextValuesModel_makes, e_TextValuesModel_makes_0, e1, jcV_some, e_TextValuesModel_makes_4]
  rw [e0]
  rcases r_sorts d L g J hM m3 hV m6 m7 hG with ⟨κ, M, I2, p1, p2, p3, p4, p5⟩ | ⟨I2, p1, p2, p3⟩
  · rw [p5, jcI_some, e_TextValuesModel_makes_8, jif_f (by decide)]
    have hκ : ∀ i, i < N → κ i < 10 := fun i hi => by have := p1.2.1 i hi; have := p1.1; omega
    obtain ⟨I3, q1, q2, q3, q4⟩ := r_makes_33 (d + 7) L g J (into := into) 10 0 I2 (by omega) p3 p4 (fun c hc => absurd hc (by omega))
    have hk0 := hκ 0 h0N
    have e2 : jval (d + 7) 185 33 [.ref 117, .int (nI into), jjunk, .int (nI 10), jjunk, jjunk, jjunk, jjunk, jjunk] [] (jGs L g, I3, J) = jval (d + 7) 185 81 [.ref 117, .int (nI into), jjunk, .int (nI 1), .int (nI 1760), .int (nI 0), jjunk, jjunk, jjunk] [] (jGs L g, ju (ju I3 132 (κ 0) (nI 0)) 133 0 (nI 0), J) := by
      have hk := q2 0 h0N
      rw [e_TextValuesModel_makes_33]
      simp (disch := omega) only [li_0, li_1, li_2, li_3, li_4, li_5, li_6, li_7, li_8, li_9, li_10, li_11, li_12, li_13, li_14, li_15, li_16, li_17, li_18, li_19, li_20, li_21, li_22, li_23, li_24, li_25, li_26, li_27, li_28, li_29, li_30, li_31, li_32, li_33, li_34, li_35, li_36, li_37, li_38, li_39, li_40, li_41, li_42, li_43, li_44, li_45, li_46, li_47, li_48, li_49, li_50, li_51, li_52, li_53, li_54, li_55, li_56, li_57, li_58, li_59, li_60, li_61, li_62, li_63, li_64, li_65, li_66, li_67, li_68, li_69, li_70, li_71, li_72, li_73, li_74, li_75, li_76, li_77, li_78, li_79, li_80, li_81, li_82, li_83, li_84, li_85, li_86, li_87, li_88, li_89, li_90, li_91, li_92, li_93, li_94, li_95, li_96, li_97, li_98, li_99, li_100, li_101, li_102, li_103, li_104, li_105, li_106, li_107, li_108, li_109, li_110, li_111, li_112, li_113, li_114, li_115, li_116, li_117, li_118, li_119, li_120, li_121, li_122, li_123, li_124, li_125, li_126, li_127, li_128, li_160, li_219, li_220, li_248, li_249, li_250, li_251, li_255, li_999, li_1000, li_1023, li_1024, li_10240, li_999999, li_1048576, li_1048575, nI_add, nI_mul, zi_div, zi_eq, zi_le, zi_lt, zi_in, zi_c, zi_sub, zi_ofN, zi_m1e, zi_m1e', zi_m1lt, zi_m1le, zi_ltm1, zi_lem1, zi_m1m1, jif_T, jif_F, jif_t, jif_f, zb_1, zb_0, zb_01, zb_ft, zn_01a, zn_01b, zi_tst, zi_pow, cond_true, jcI_some, jcV_some, jcJ_some, Nat.reduceAdd, Nat.reduceMul, Nat.reduceSub, reduceCtorEq, Bool.true_eq_false, Bool.false_eq_true, zb_t, zb_f, Nat.add_zero, Nat.zero_add, Nat.mul_zero, Nat.zero_mul, or_true, true_or, or_false, false_or, and_true, true_and, and_false, false_and, not_true_eq_false, not_false_eq_true, hk]
      rfl
    obtain ⟨I4, s1, s2, s3, s4, s5, s6⟩ := r_makes_81 (d + 7) L g J (into := into) (n := 1) 32 0 (ju (ju I3 132 (κ 0) (nI 0)) 133 0 (nI 0)) (by omega) (mGr_ju (mGr_ju q1 (by omega)) (by omega)) (fun c hc => absurd hc (by omega))
    rw [show (0 : Int32) = nI 0 from rfl, q4, e2, s6]
    -- the quotient's steps
    have hrep : ∀ c, ∃ k, c < M → k < N ∧ κ k = c := fun c => by
      by_cases hc : c < M
      · obtain ⟨k, k1, k2⟩ := p1.2.2.1 c hc
        exact ⟨k, fun _ => ⟨k1, k2⟩⟩
      · exact ⟨0, fun h => absurd h hc⟩
    obtain ⟨rep, hrp⟩ := Classical.axiomOfChoice hrep
    have hnx : ∀ k, k < N → ∀ l, l < 3 → (fun c l => κ (T (3 * rep c + l))) (κ k) l = κ (T (3 * k + l)) := fun k hk l hl => by
      obtain ⟨r1, r2⟩ := hrp (κ k) (p1.2.1 k hk)
      have := p2 (rep (κ k)) r1 k hk r2 l hl
      rw [bA_T (N := N) r1 hl, bA_T (N := N) hk hl] at this
      exact this
    have hQ : mQ I K T N κ en (fun _ => 0) (fun _ => 0) 1 (3 * 0) 0 I4 := by
      refine ⟨s1, fun i hi => ?_, fun r hr => ?_, fun c hc => ?_, s5 0 (by omega), s5 1 (by omega), fun q hq => absurd hq (by omega), fun c _ hc => s5 c hc⟩
      · rw [s2, zu_a (by omega), zu_a (by omega)]; exact q2 i hi
      · have : r = 0 := by omega
        rw [s4, this, zu_at]
      · rw [s3]
        by_cases hc0 : c = κ 0
        · left
          exact ⟨0, by omega, hc0.symm, by rw [hc0, zu_a (by omega), zu_at]⟩
        · right
          exact ⟨fun r _ => fun e => hc0 e.symm, by rw [zu_a (by omega), zu_k hc0]; exact q3 c hc⟩
    obtain ⟨mem, T', n, I5, t1, t2, t3, t4, t5, t6, t7⟩ := r_makes_out (d + 1) L g J (into := into) (nx := fun c l => κ (T (3 * rep c + l))) hM hV m3 hT hκ hnx (by omega) 10 0 (fun _ => 0) (fun _ => 0) 1 I4 (by omega) (by omega) (by omega) rfl (fun r _ => h0N) (bf_0 _ _ _) (fun i hi => absurd hi (by omega)) hQ
    obtain ⟨u1, u2, u3, u4, u5, u6, u7, u8⟩ := t6
    obtain ⟨v1, v2⟩ := kQuot hB p1.2.2.2.1 (fun i hi j hj h w hw => kStable hB p1.2.2.2.2 p2 w i j hi hj hw h) t1 t2 t3 (fun r hr l hl => by rw [bA_T (N := N) (t3 r hr) hl]; exact hnx _ (t3 r hr) l hl) t4 t5
    have hmk := kMk_some v1 (fun w hw => (v2 w hw).trans (hL w hw))
    refine ⟨mCp (ju I5 119 1760 (nI n)) 55 into 32, ⟨fun a j hs ha => ?_, fun j hj hj' => ?_, fun y hy => ?_⟩, ?_, t7⟩
    · rw [mCp_n ha, zu_a (by omega)]; exact u1.1 a j hs
    · rw [mCp_out hj', zu_k (by omega)]; exact u1.1 _ _ (by unfold mScr; omega)
    · rw [mCp_n (by omega), zu_a (by omega)]; exact u1.2.2.2.2 y hy
    · rw [hmk, Option.getD_some]
      refine mR_cp ⟨by omega, t1, v1.1.1, zu_at _ _ _ _, ?_, fun r hr l hl => ?_, fun c hc1 hc2 => ?_⟩ (by omega)
      · rw [zu_k (by omega)]
        refine u6.trans ?_
        congr 1
        apply kEm_cg
        intro r hr
        show _ = (if r < n then (bA N (fun i => en (K i)) T).2.1 (mem r) else false)
        rw [if_pos hr, bA_e (N := N) (t3 r hr)]
      · have hr' : r < n := hr
        rw [zu_k (by omega)]
        have := u7 (3 * r + l) (by omega)
        rw [show 1762 + (3 * r + l) = 32 * 55 + 2 + 3 * r + l by omega] at this
        rw [this, bA_T hr' hl]
      · have hc3 : 2 + 3 * n ≤ c := hc1
        rw [zu_k (by omega)]
        exact u8 c hc3 hc2
  · rw [p3, jcI_some, e_TextValuesModel_makes_8, jif_t (by decide), kMk_none (kBig_congr hL p1)]
    rcases hF with ⟨f1, f2⟩ | ⟨b, b1, b2, b3⟩
    · rw [jif_t f1, s_laysAll (d + 6) L g I2 J (by omega), jcV_some, e_TextValuesModel_makes_21, e_TextValuesModel_makes_30]
      refine ⟨mAll I2 into, ⟨fun a j hs ha => ?_, fun j hj hj' => ?_, fun y hy => ?_⟩, ?_, rfl⟩
      · rw [mAll_n ha]; exact p2.1 a j hs
      · rw [mAll_out hj']; exact p2.1 _ _ (by unfold mScr; omega)
      · rw [mAll_n (by omega)]; exact p2.2.2.2.2 y hy
      · rw [f2]; exact mR_all (by omega)
    · rw [b2, jif_f (show ¬ nI b = -1 from fun h => by rw [show (-1 : Int32) = -nI 1 from rfl, zi_m1e (by omega)] at h; exact h), s_copies (d + 6) L g I2 J (by omega) (by omega), jcV_some, e_TextValuesModel_makes_30]
      refine ⟨mCp I2 b into 32, ⟨fun a j hs ha => ?_, fun j hj hj' => ?_, fun y hy => ?_⟩, ?_, rfl⟩
      · rw [mCp_n ha]; exact p2.1 a j hs
      · rw [mCp_out hj']; exact p2.1 _ _ (by unfold mScr; omega)
      · rw [mCp_n (by omega)]; exact p2.2.2.2.2 y hy
      · exact mR_cp (mR_eq b3 p2.1 b1) (by omega)
end MM

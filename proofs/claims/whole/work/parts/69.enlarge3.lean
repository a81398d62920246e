/-! THE CLASS: enlarge -/
set_option maxRecDepth 100000
theorem jga_all (L : Nat) (g : jG) (kd ln n : Nat) (h : 170 ≤ g.2.2.2.1) : ∃ g1 : jG, (∀ (I : Nat → Nat → Int32) (J : Nat → Nat → Int64), jal (jGs L g, I, J) kd ln n = (jGs L g1, jup I (g.2.2.2.1 + 1) (fun _ => nI 0), jup J (g.2.2.2.1 + 1) (fun _ => 0))) ∧ g1.2.2.2.1 = g.2.2.2.1 + 1 ∧ g1.2.2.2.2 = g.2.2.2.2 + n ∧ gK L g1 (g.2.2.2.1 + 1) = kd ∧ gN L g1 (g.2.2.2.1 + 1) = ln ∧ (∀ a, a ≠ g.2.2.2.1 + 1 → gK L g1 a = gK L g a ∧ gN L g1 a = gN L g a) ∧ (∀ a k, a ≠ g.2.2.2.1 + 1 → g1.2.2.1 a k = g.2.2.1 a k) ∧ ∀ k, g1.2.2.1 (g.2.2.2.1 + 1) k = none :=
  ⟨jga g kd ln n, fun _ _ => jal_G h, rfl, rfl, gK_new h, gN_new h, fun _ ha => ⟨gK_old ha, gN_old ha⟩, fun _ _ ha => jga_R ha, fun k => by
    show jup g.2.2.1 (g.2.2.2.1 + 1) (fun _ => none) (g.2.2.2.1 + 1) k = none
    rw [jup_s]⟩
theorem jgsR_all (L : Nat) (g : jG) (a k : Nat) (v : Option Nat) (h : jr0 a k = 0) : ∃ g1 : jG, jgsR (jGs L g) a k v = jGs L g1 ∧ g1.2.2.2.1 = g.2.2.2.1 ∧ g1.2.2.2.2 = g.2.2.2.2 ∧ (∀ b, gK L g1 b = gK L g b ∧ gN L g1 b = gN L g b) ∧ g1.2.2.1 a k = v ∧ ∀ b j, (b ≠ a ∨ j ≠ k) → g1.2.2.1 b j = g.2.2.1 b j :=
  ⟨jgsR g a k v, jGs_R h, rfl, rfl, fun _ => ⟨rfl, rfl⟩, ju_at _ _ _ _, fun _ _ hb => ju_ne hb⟩
theorem r0_19_9 : jr0 19 9 = 0 := rfl
theorem r0_19_10 : jr0 19 10 = 0 := rfl
theorem r0_19_11 : jr0 19 11 = 0 := rfl
theorem r0_19_13 : jr0 19 13 = 0 := rfl
theorem r0_19_14 : jr0 19 14 = 0 := rfl
section CC
variable (d L : Nat)
/-- the new rows: from the start to the slots' filling -/
theorem c_enl_new {g : jG} {I : Nat → Nat → Int32} {J : Nat → Nat → Int64} {kr rr sr gr fr c base N : Nat} {K ν : Nat → Nat} (hA : mkA L g kr rr sr gr fr c) (hc : c ≤ 13) (h168 : 170 ≤ g.2.2.2.1) (hC : g.2.2.2.1 + 5 ≤ 600000) (hQ : g.2.2.2.2 + 9 * 2 ^ (c + 1) ≤ 7302250) (h7 : I 19 7 = nI N) (h8 : I 19 8 = nI (2 ^ c)) (h12 : I 19 12 = nI base) (hN : N ≤ 2 ^ c) (hk : ∀ i, i < N → I kr i = nI (K i)) (hg : ∀ i, i < N → I gr i = nI (ν i)) (hν : ∀ i, i < N → ν i < 10) :
    ∃ g' I' J', mkA L g' (g.2.2.2.1 + 1) (g.2.2.2.1 + 2) (g.2.2.2.1 + 5) (g.2.2.2.1 + 3) (g.2.2.2.1 + 4) (c + 1) ∧ g'.2.2.2.1 = g.2.2.2.1 + 5 ∧ g'.2.2.2.2 = g.2.2.2.2 + 9 * 2 ^ (c + 1) ∧ (∀ a, a ≤ g.2.2.2.1 → gK L g' a = gK L g a ∧ gN L g' a = gN L g a) ∧ (∀ a k, a ≤ g.2.2.2.1 → a ≠ 19 → g'.2.2.1 a k = g.2.2.1 a k) ∧ (∀ a, a ≤ g.2.2.2.1 → a ≠ 19 → I' a = I a) ∧ (∀ a, a ≤ g.2.2.2.1 → J' a = J a) ∧ (∀ j, j ≠ 8 → j ≠ 12 → I' 19 j = I 19 j) ∧ I' 19 8 = nI (2 ^ (c + 1)) ∧ I' 19 12 = nI (base + N) ∧ (∀ i, i < N → I' (g.2.2.2.1 + 1) i = nI (K i) ∧ I' (g.2.2.2.1 + 3) i = nI (ν i)) ∧ (∀ i, i < 4 * N → I' (g.2.2.2.1 + 2) i = I rr i) ∧ (∀ x, I' (g.2.2.2.1 + 5) x = nI 0) ∧
      jcall (d + 1) 44 [.ref 19] (jGs L g, I, J) = jval d 44 166 [.ref 19, jjunk, jjunk, jjunk, jjunk] [] (jGs L g', I', J') := by
  obtain ⟨a1, a2, a3, a4, a5, a6, a7, a8, a9, a10, a11, a12, a13, a14, a15, a16, a17, a18, a19, a20, a21, a22, a23, a24⟩ := id hA
  have hp5 : 2 ^ c ≤ 2 ^ 13 := Nat.pow_le_pow_right (by omega) hc
  have hp4 : 2 ^ (c + 1) = 2 * 2 ^ c := by rw [Nat.pow_succ]; omega
  have h14 : (14 : Nat) ≤ 15 := by omega
  have hp0 : 0 < 2 ^ c := Nat.two_pow_pos c
  have k1 : (jGs L g).1 kr = 15 := a6
  have l1 : (jGs L g).2.1 kr = 2 ^ c := a11
  generalize hCd : g.2.2.2.1 = C at *
  generalize hQd : g.2.2.2.2 = Q at *
  obtain ⟨g1, x1, c1, q1, kn1, ln1, o1, r1, z1⟩ := jga_all L g 15 (2 ^ c * 2) (2 ^ c * 2) (by omega)
  rw [hCd] at x1 c1 kn1 ln1 o1 r1 z1
  rw [hQd] at q1
  obtain ⟨g2, x2, c2, q2, kn2, ln2, o2, r2, z2⟩ := jga_all L g1 15 (4 * (2 ^ c * 2)) (4 * (2 ^ c * 2)) (by omega)
  rw [c1, show C + 1 + 1 = C + 2 from rfl] at x2 c2 kn2 ln2 o2 r2 z2
  rw [q1] at q2
  obtain ⟨g3, x3, c3, q3, kn3, ln3, o3, r3, z3⟩ := jga_all L g2 14 (2 ^ c * 2) (2 ^ c * 2) (by omega)
  rw [c2, show C + 2 + 1 = C + 3 from rfl] at x3 c3 kn3 ln3 o3 r3 z3
  rw [q2] at q3
  obtain ⟨g4, x4, c4, q4, o4, s4, r4⟩ := jgsR_all L g3 19 9 (some (C + 1)) r0_19_9
  obtain ⟨g5, x5, c5, q5, o5, s5, r5⟩ := jgsR_all L g4 19 10 (some (C + 2)) r0_19_10
  obtain ⟨g6, x6, c6, q6, o6, s6, r6⟩ := jgsR_all L g5 19 13 (some (C + 3)) r0_19_13
  have c6' : g6.2.2.2.1 = C + 3 := by rw [c6, c5, c4, c3]
  have q6' : g6.2.2.2.2 = Q + 2 ^ c * 2 + 4 * (2 ^ c * 2) + 2 ^ c * 2 := by rw [q6, q5, q4, q3]
  obtain ⟨g7, x7, c7, q7, kn7, ln7, o7, r7, z7⟩ := jga_all L g6 14 (2 ^ c * 2) (2 ^ c * 2) (by omega)
  rw [c6', show C + 3 + 1 = C + 4 from rfl] at x7 c7 kn7 ln7 o7 r7 z7
  rw [q6'] at q7
  obtain ⟨g8, x8, c8, q8, o8, s8, r8⟩ := jgsR_all L g7 19 14 (some (C + 4)) r0_19_14
  rw [c7] at c8
  rw [q7] at q8
  obtain ⟨g9, x9, c9, q9, kn9, ln9, o9, r9, z9⟩ := jga_all L g8 15 (2 * (2 ^ c * 2)) (2 * (2 ^ c * 2)) (by omega)
  rw [c8, show C + 4 + 1 = C + 5 from rfl] at x9 c9 kn9 ln9 o9 r9 z9
  rw [q8] at q9
  obtain ⟨gA, xA, cA, qA, oA, sA, rA⟩ := jgsR_all L g9 19 11 (some (C + 5)) r0_19_11
  -- kinds and lengths at each stage
  have O3 : ∀ a, a ≤ C → gK L g3 a = gK L g a ∧ gN L g3 a = gN L g a := fun a ha => ⟨((o3 a (by omega)).1.trans (o2 a (by omega)).1).trans (o1 a (by omega)).1, ((o3 a (by omega)).2.trans (o2 a (by omega)).2).trans (o1 a (by omega)).2⟩
  have OA : ∀ a, a ≤ C + 3 → gK L gA a = gK L g3 a ∧ gN L gA a = gN L g3 a := fun a ha => ⟨by rw [(oA a).1, (o9 a (by omega)).1, (o8 a).1, (o7 a (by omega)).1, (o6 a).1, (o5 a).1, (o4 a).1], by rw [(oA a).2, (o9 a (by omega)).2, (o8 a).2, (o7 a (by omega)).2, (o6 a).2, (o5 a).2, (o4 a).2]⟩
  have T1 : gK L g3 (C + 1) = 15 ∧ gN L g3 (C + 1) = 2 ^ (c + 1) := ⟨by rw [(o3 _ (by omega)).1, (o2 _ (by omega)).1, kn1], by rw [(o3 _ (by omega)).2, (o2 _ (by omega)).2, ln1, hp4, Nat.mul_comm]⟩
  have T2 : gK L g3 (C + 2) = 15 ∧ gN L g3 (C + 2) = 4 * 2 ^ (c + 1) := ⟨by rw [(o3 _ (by omega)).1, kn2], by rw [(o3 _ (by omega)).2, ln2, hp4, Nat.mul_comm (2 ^ c)]⟩
  have T3 : gK L g3 (C + 3) = 14 ∧ gN L g3 (C + 3) = 2 ^ (c + 1) := ⟨kn3, by rw [ln3, hp4, Nat.mul_comm]⟩
  have R3 : ∀ a k, a ≤ C → g3.2.2.1 a k = g.2.2.1 a k := fun a k ha => by rw [r3 a k (by omega), r2 a k (by omega), r1 a k (by omega)]
  have h19C : 19 ≤ C := by omega
  -- the rows
  have i19 : ∀ j, (jup (jup (jup (ju (ju I 19 8 (nI (2 ^ c * 2))) 19 12 (nI (base + N))) (C + 1) (fun _ => nI 0)) (C + 2) (fun _ => nI 0)) (C + 3) (fun _ => nI 0) : Nat → Nat → Int32) 19 j = ju (ju I 19 8 (nI (2 ^ c * 2))) 19 12 (nI (base + N)) 19 j := fun j => by rw [jup_n (by omega), jup_n (by omega), jup_n (by omega)]
  have iold : ∀ a, a ≤ C → a ≠ 19 → (jup (jup (jup (ju (ju I 19 8 (nI (2 ^ c * 2))) 19 12 (nI (base + N))) (C + 1) (fun _ => nI 0)) (C + 2) (fun _ => nI 0)) (C + 3) (fun _ => nI 0) : Nat → Nat → Int32) a = I a := fun a ha hn => by rw [jup_n (by omega), jup_n (by omega), jup_n (by omega), ju_n hn, ju_n hn]
  generalize hI3 : (jup (jup (jup (ju (ju I 19 8 (nI (2 ^ c * 2))) 19 12 (nI (base + N))) (C + 1) (fun _ => nI 0)) (C + 2) (fun _ => nI 0)) (C + 3) (fun _ => nI 0) : Nat → Nat → Int32) = I3 at *
  generalize hJ3 : (jup (jup (jup J (C + 1) (fun _ => 0)) (C + 2) (fun _ => 0)) (C + 3) (fun _ => 0) : Nat → Nat → Int64) = J3 at *
  have nkr : 19 ≠ kr := ne_K (gK_19 L g) a6 (by omega)
  have nrr : 19 ≠ rr := ne_K (gK_19 L g) a7 (by omega)
  have ngr : 19 ≠ gr := ne_K (gK_19 L g) a9 (by omega)
  obtain ⟨I4, b1, b2, b3⟩ := c_enl_61 d L g3 (J := J3) (K := K) (ν := ν) (a1 := C + 1) (a2 := C + 2) (a3 := C + 3) (c := c) (c2 := c + 1) (N := N) ((R3 19 9 h19C).trans a1) ((R3 19 13 h19C).trans a4) ((O3 kr a20).1.trans a6) ((O3 gr a23).1.trans a9) T1.1 T3.1 ((O3 kr a20).2.trans a11) ((O3 gr a23).2.trans a14) T1.2 T3.2 (by omega) (by omega) hN (by omega) (by omega) hν N 0 I3 (by omega) (by rw [i19, zu_k (by omega), zu_k (by omega)]; exact h7) (fun i hi => by rw [iold kr a20 (by omega)]; exact hk i hi) (fun i hi => by rw [iold gr a23 (by omega)]; exact hg i hi) (fun i hi => absurd hi (by omega))
  obtain ⟨I5, e1, e2, e3⟩ := c_enl_101 d L g3 (J := J3) (a1 := C + 1) (a2 := C + 2) (a3 := C + 3) (c := c) (c2 := c + 1) (N := N) ((R3 19 10 h19C).trans a2) ((O3 rr a21).1.trans a7) T2.1 ((O3 rr a21).2.trans a12) T2.2 (by omega) (by omega) hN (by omega) (4 * N) 0 I4 (by omega) (by rw [b1 19 (by omega) (by omega), i19, zu_k (by omega), zu_k (by omega)]; exact h7) (fun i hi => absurd hi (by omega))
  have i5 : ∀ j, I5 19 j = ju (ju I 19 8 (nI (2 ^ c * 2))) 19 12 (nI (base + N)) 19 j := fun j => by rw [e1 19 (by omega), b1 19 (by omega) (by omega), i19]
  have i58 : I5 19 8 = nI (2 ^ c * 2) := by rw [i5, zu_k (by omega), zu_at]
  refine ⟨gA, jup (jup I5 (C + 4) (fun _ => nI 0)) (C + 5) (fun _ => nI 0), jup (jup J3 (C + 4) (fun _ => 0)) (C + 5) (fun _ => 0), ?_, ?_, ?_, ?_, ?_, ?_, ?_, ?_, ?_, ?_, ?_, ?_, ?_, ?_⟩
  · have w1 := OA (C + 1) (by omega)
    have w2 := OA (C + 2) (by omega)
    have w3 := OA (C + 3) (by omega)
    refine ⟨?_, ?_, sA, ?_, ?_, w1.1.trans T1.1, w2.1.trans T2.1, ?_, w3.1.trans T3.1, ?_, w1.2.trans T1.2, w2.2.trans T2.2, ?_, w3.2.trans T3.2, ?_, by omega, by omega, by omega, by omega, ?_, ?_, ?_, ?_, ?_⟩
    · rw [rA _ _ (Or.inr (by omega)), r9 _ _ (by omega), r8 _ _ (Or.inr (by omega)), r7 _ _ (by omega), r6 _ _ (Or.inr (by omega)), r5 _ _ (Or.inr (by omega))]; exact s4
    · rw [rA _ _ (Or.inr (by omega)), r9 _ _ (by omega), r8 _ _ (Or.inr (by omega)), r7 _ _ (by omega), r6 _ _ (Or.inr (by omega))]; exact s5
    · rw [rA _ _ (Or.inr (by omega)), r9 _ _ (by omega), r8 _ _ (Or.inr (by omega)), r7 _ _ (by omega)]; exact s6
    · rw [rA _ _ (Or.inr (by omega)), r9 _ _ (by omega)]; exact s8
    · rw [(oA _).1]; exact kn9
    · rw [(oA _).1, (o9 _ (by omega)).1, (o8 _).1]; exact kn7
    · rw [(oA _).2, ln9, hp4, Nat.mul_comm (2 ^ c)]
    · rw [(oA _).2, (o9 _ (by omega)).2, (o8 _).2, ln7, hp4, Nat.mul_comm]
    all_goals rw [cA, c9]; omega
  · rw [cA, c9]
  · rw [qA, q9, hp4]; omega
  · intro a ha
    have w := OA a (by omega)
    have w' := O3 a ha
    exact ⟨w.1.trans w'.1, w.2.trans w'.2⟩
  · intro a k ha hn
    rw [rA _ _ (Or.inl hn), r9 _ _ (by omega), r8 _ _ (Or.inl hn), r7 _ _ (by omega), r6 _ _ (Or.inl hn), r5 _ _ (Or.inl hn), r4 _ _ (Or.inl hn)]
    exact R3 a k ha
  · intro a ha hn
    rw [jup_n (by omega), jup_n (by omega), e1 a (by omega), b1 a (by omega) (by omega)]
    exact iold a ha hn
  · intro a ha
    rw [jup_n (by omega), jup_n (by omega), ← hJ3, jup_n (by omega), jup_n (by omega), jup_n (by omega)]
  · intro j j1 j2
    rw [jup_n (by omega), jup_n (by omega), i5, zu_k j2, zu_k j1]
  · rw [jup_n (by omega), jup_n (by omega), i58, hp4, Nat.mul_comm]
  · rw [jup_n (by omega), jup_n (by omega), i5, zu_at]
  · intro i hi
    rw [jup_n (by omega), jup_n (by omega), e1 _ (by omega), jup_n (by omega), jup_n (by omega), e1 _ (by omega)]
    exact b2 i hi
  · intro i hi
    rw [jup_n (by omega), jup_n (by omega), e2 i hi, b1 rr (by omega) (by omega), iold rr a21 (by omega)]
  · intro x
    rw [jup_s]
  · have s0 : jcall (d + 1) 44 [.ref 19] (jGs L g, I, J) = jval d 44 41 [.ref 19, jjunk, jjunk, jjunk, jjunk] [.ref (C + 1)] (jGs L g1, jup (ju (ju I 19 8 (nI (2 ^ c * 2))) 19 12 (nI (base + N))) (C + 1) (fun _ => nI 0), jup J (C + 1) (fun _ => 0)) := by
      rw [c_Maker_enlarge, e_Maker_enlarge_0]
      simp (disch := omega) only [li_0, li_1, li_2, li_3, li_4, li_5, li_6, li_7, li_8, li_9, li_10, li_11, li_12, li_13, li_14, li_15, li_16, li_17, li_18, li_19, li_20, li_21, li_22, li_23, li_24, li_25, li_26, li_27, li_28, li_29, li_30, li_31, li_32, li_33, li_34, li_35, li_36, li_37, li_38, li_39, li_40, li_41, li_42, li_43, li_44, li_45, li_46, li_47, li_48, li_49, li_50, li_51, li_52, li_53, li_54, li_55, li_56, li_57, li_58, li_59, li_60, li_61, li_62, li_63, li_64, li_65, li_66, li_67, li_68, li_69, li_70, li_71, li_72, li_73, li_74, li_75, li_76, li_77, li_78, li_79, li_80, li_81, li_82, li_83, li_84, li_85, li_86, li_87, li_88, li_89, li_90, li_91, li_92, li_93, li_94, li_95, li_96, li_97, li_98, li_99, li_100, li_101, li_102, li_103, li_104, li_105, li_106, li_107, li_108, li_109, li_110, li_111, li_112, li_113, li_114, li_115, li_116, li_117, li_118, li_119, li_120, li_121, li_122, li_123, li_124, li_125, li_126, li_127, li_128, li_160, li_219, li_220, li_248, li_249, li_250, li_251, li_255, li_999, li_1000, li_1023, li_1024, li_10240, li_999999, li_1048576, li_1048575, nI_add, nI_mul, zi_div, zi_eq, zi_le, zi_lt, zi_in, zi_c, zi_sub, zi_ofN, zi_m1e, zi_m1e', zi_m1lt, zi_m1le, zi_ltm1, zi_lem1, zi_m1m1, jif_T, jif_F, jif_t, jif_f, zb_1, zb_0, zb_01, zb_ft, zn_01a, zn_01b, zi_tst, zi_pow, cond_true, jcI_some, jcV_some, jcJ_some, Nat.reduceAdd, Nat.reduceMul, Nat.reduceSub, reduceCtorEq, Bool.true_eq_false, Bool.false_eq_true, zb_t, zb_f, Nat.add_zero, Nat.zero_add, Nat.mul_zero, Nat.zero_mul, or_true, true_or, or_false, false_or, and_true, true_and, and_false, false_and, not_true_eq_false, not_false_eq_true, jo_some, ↓reduceIte, a1, k1, l1, h14, h7, h8, h12, jrm_t, zb_le, Bool.and_self, x1, hCd]
    have p2 : C + 1 + 1 = C + 2 := rfl
    have p3 : C + 2 + 1 = C + 3 := rfl
    have p4 : C + 3 + 1 = C + 4 := rfl
    have p5 : C + 4 + 1 = C + 5 := rfl
    have t1 : jup (ju (ju I 19 8 (nI (2 ^ c * 2))) 19 12 (nI (base + N))) (C + 1) (fun _ => nI 0) 19 8 = nI (2 ^ c * 2) := by rw [jup_n (by omega), zu_k (by omega), zu_at]
    have t2 : jup (jup (ju (ju I 19 8 (nI (2 ^ c * 2))) 19 12 (nI (base + N))) (C + 1) (fun _ => nI 0)) (C + 2) (fun _ => nI 0) 19 8 = nI (2 ^ c * 2) := by rw [jup_n (by omega), t1]
    have t5 : jup I5 (C + 4) (fun _ => nI 0) 19 8 = nI (2 ^ c * 2) := by rw [jup_n (by omega), i58]
    rw [s0, e_Maker_enlarge_41]
    simp (disch := omega) only [li_0, li_1, li_2, li_3, li_4, li_5, li_6, li_7, li_8, li_9, li_10, li_11, li_12, li_13, li_14, li_15, li_16, li_17, li_18, li_19, li_20, li_21, li_22, li_23, li_24, li_25, li_26, li_27, li_28, li_29, li_30, li_31, li_32, li_33, li_34, li_35, li_36, li_37, li_38, li_39, li_40, li_41, li_42, li_43, li_44, li_45, li_46, li_47, li_48, li_49, li_50, li_51, li_52, li_53, li_54, li_55, li_56, li_57, li_58, li_59, li_60, li_61, li_62, li_63, li_64, li_65, li_66, li_67, li_68, li_69, li_70, li_71, li_72, li_73, li_74, li_75, li_76, li_77, li_78, li_79, li_80, li_81, li_82, li_83, li_84, li_85, li_86, li_87, li_88, li_89, li_90, li_91, li_92, li_93, li_94, li_95, li_96, li_97, li_98, li_99, li_100, li_101, li_102, li_103, li_104, li_105, li_106, li_107, li_108, li_109, li_110, li_111, li_112, li_113, li_114, li_115, li_116, li_117, li_118, li_119, li_120, li_121, li_122, li_123, li_124, li_125, li_126, li_127, li_128, li_160, li_219, li_220, li_248, li_249, li_250, li_251, li_255, li_999, li_1000, li_1023, li_1024, li_10240, li_999999, li_1048576, li_1048575, nI_add, nI_mul, zi_div, zi_eq, zi_le, zi_lt, zi_in, zi_c, zi_sub, zi_ofN, zi_m1e, zi_m1e', zi_m1lt, zi_m1le, zi_ltm1, zi_lem1, zi_m1m1, jif_T, jif_F, jif_t, jif_f, zb_1, zb_0, zb_01, zb_ft, zn_01a, zn_01b, zi_tst, zi_pow, cond_true, jcI_some, jcV_some, jcJ_some, Nat.reduceAdd, Nat.reduceMul, Nat.reduceSub, reduceCtorEq, Bool.true_eq_false, Bool.false_eq_true, zb_t, zb_f, Nat.add_zero, Nat.zero_add, Nat.mul_zero, Nat.zero_mul, or_true, true_or, or_false, false_or, and_true, true_and, and_false, false_and, not_true_eq_false, not_false_eq_true, t1, jrm_t, zb_le, Bool.and_self, x2, c1, p2]
    rw [e_Maker_enlarge_50]
    simp (disch := omega) only [li_0, li_1, li_2, li_3, li_4, li_5, li_6, li_7, li_8, li_9, li_10, li_11, li_12, li_13, li_14, li_15, li_16, li_17, li_18, li_19, li_20, li_21, li_22, li_23, li_24, li_25, li_26, li_27, li_28, li_29, li_30, li_31, li_32, li_33, li_34, li_35, li_36, li_37, li_38, li_39, li_40, li_41, li_42, li_43, li_44, li_45, li_46, li_47, li_48, li_49, li_50, li_51, li_52, li_53, li_54, li_55, li_56, li_57, li_58, li_59, li_60, li_61, li_62, li_63, li_64, li_65, li_66, li_67, li_68, li_69, li_70, li_71, li_72, li_73, li_74, li_75, li_76, li_77, li_78, li_79, li_80, li_81, li_82, li_83, li_84, li_85, li_86, li_87, li_88, li_89, li_90, li_91, li_92, li_93, li_94, li_95, li_96, li_97, li_98, li_99, li_100, li_101, li_102, li_103, li_104, li_105, li_106, li_107, li_108, li_109, li_110, li_111, li_112, li_113, li_114, li_115, li_116, li_117, li_118, li_119, li_120, li_121, li_122, li_123, li_124, li_125, li_126, li_127, li_128, li_160, li_219, li_220, li_248, li_249, li_250, li_251, li_255, li_999, li_1000, li_1023, li_1024, li_10240, li_999999, li_1048576, li_1048575, nI_add, nI_mul, zi_div, zi_eq, zi_le, zi_lt, zi_in, zi_c, zi_sub, zi_ofN, zi_m1e, zi_m1e', zi_m1lt, zi_m1le, zi_ltm1, zi_lem1, zi_m1m1, jif_T, jif_F, jif_t, jif_f, zb_1, zb_0, zb_01, zb_ft, zn_01a, zn_01b, zi_tst, zi_pow, cond_true, jcI_some, jcV_some, jcJ_some, Nat.reduceAdd, Nat.reduceMul, Nat.reduceSub, reduceCtorEq, Bool.true_eq_false, Bool.false_eq_true, zb_t, zb_f, Nat.add_zero, Nat.zero_add, Nat.mul_zero, Nat.zero_mul, or_true, true_or, or_false, false_or, and_true, true_and, and_false, false_and, not_true_eq_false, not_false_eq_true, t2, jrm_t, zb_le, Bool.and_self, x3, c2, p3]
    rw [e_Maker_enlarge_57, hI3, hJ3, show (0 : Int32) = nI 0 from rfl, b3, e3, x4, e_Maker_enlarge_134, x5, e_Maker_enlarge_139, x6, e_Maker_enlarge_144]
    simp (disch := omega) only [li_0, li_1, li_2, li_3, li_4, li_5, li_6, li_7, li_8, li_9, li_10, li_11, li_12, li_13, li_14, li_15, li_16, li_17, li_18, li_19, li_20, li_21, li_22, li_23, li_24, li_25, li_26, li_27, li_28, li_29, li_30, li_31, li_32, li_33, li_34, li_35, li_36, li_37, li_38, li_39, li_40, li_41, li_42, li_43, li_44, li_45, li_46, li_47, li_48, li_49, li_50, li_51, li_52, li_53, li_54, li_55, li_56, li_57, li_58, li_59, li_60, li_61, li_62, li_63, li_64, li_65, li_66, li_67, li_68, li_69, li_70, li_71, li_72, li_73, li_74, li_75, li_76, li_77, li_78, li_79, li_80, li_81, li_82, li_83, li_84, li_85, li_86, li_87, li_88, li_89, li_90, li_91, li_92, li_93, li_94, li_95, li_96, li_97, li_98, li_99, li_100, li_101, li_102, li_103, li_104, li_105, li_106, li_107, li_108, li_109, li_110, li_111, li_112, li_113, li_114, li_115, li_116, li_117, li_118, li_119, li_120, li_121, li_122, li_123, li_124, li_125, li_126, li_127, li_128, li_160, li_219, li_220, li_248, li_249, li_250, li_251, li_255, li_999, li_1000, li_1023, li_1024, li_10240, li_999999, li_1048576, li_1048575, nI_add, nI_mul, zi_div, zi_eq, zi_le, zi_lt, zi_in, zi_c, zi_sub, zi_ofN, zi_m1e, zi_m1e', zi_m1lt, zi_m1le, zi_ltm1, zi_lem1, zi_m1m1, jif_T, jif_F, jif_t, jif_f, zb_1, zb_0, zb_01, zb_ft, zn_01a, zn_01b, zi_tst, zi_pow, cond_true, jcI_some, jcV_some, jcJ_some, Nat.reduceAdd, Nat.reduceMul, Nat.reduceSub, reduceCtorEq, Bool.true_eq_false, Bool.false_eq_true, zb_t, zb_f, Nat.add_zero, Nat.zero_add, Nat.mul_zero, Nat.zero_mul, or_true, true_or, or_false, false_or, and_true, true_and, and_false, false_and, not_true_eq_false, not_false_eq_true, i58, jrm_t, zb_le, Bool.and_self, x7, c6', p4]
    rw [e_Maker_enlarge_151, x8, e_Maker_enlarge_154]
    simp (disch := omega) only [li_0, li_1, li_2, li_3, li_4, li_5, li_6, li_7, li_8, li_9, li_10, li_11, li_12, li_13, li_14, li_15, li_16, li_17, li_18, li_19, li_20, li_21, li_22, li_23, li_24, li_25, li_26, li_27, li_28, li_29, li_30, li_31, li_32, li_33, li_34, li_35, li_36, li_37, li_38, li_39, li_40, li_41, li_42, li_43, li_44, li_45, li_46, li_47, li_48, li_49, li_50, li_51, li_52, li_53, li_54, li_55, li_56, li_57, li_58, li_59, li_60, li_61, li_62, li_63, li_64, li_65, li_66, li_67, li_68, li_69, li_70, li_71, li_72, li_73, li_74, li_75, li_76, li_77, li_78, li_79, li_80, li_81, li_82, li_83, li_84, li_85, li_86, li_87, li_88, li_89, li_90, li_91, li_92, li_93, li_94, li_95, li_96, li_97, li_98, li_99, li_100, li_101, li_102, li_103, li_104, li_105, li_106, li_107, li_108, li_109, li_110, li_111, li_112, li_113, li_114, li_115, li_116, li_117, li_118, li_119, li_120, li_121, li_122, li_123, li_124, li_125, li_126, li_127, li_128, li_160, li_219, li_220, li_248, li_249, li_250, li_251, li_255, li_999, li_1000, li_1023, li_1024, li_10240, li_999999, li_1048576, li_1048575, nI_add, nI_mul, zi_div, zi_eq, zi_le, zi_lt, zi_in, zi_c, zi_sub, zi_ofN, zi_m1e, zi_m1e', zi_m1lt, zi_m1le, zi_ltm1, zi_lem1, zi_m1m1, jif_T, jif_F, jif_t, jif_f, zb_1, zb_0, zb_01, zb_ft, zn_01a, zn_01b, zi_tst, zi_pow, cond_true, jcI_some, jcV_some, jcJ_some, Nat.reduceAdd, Nat.reduceMul, Nat.reduceSub, reduceCtorEq, Bool.true_eq_false, Bool.false_eq_true, zb_t, zb_f, Nat.add_zero, Nat.zero_add, Nat.mul_zero, Nat.zero_mul, or_true, true_or, or_false, false_or, and_true, true_and, and_false, false_and, not_true_eq_false, not_false_eq_true, t5, jrm_t, zb_le, Bool.and_self, x9, c8, p5]
    rw [e_Maker_enlarge_163, xA]
end CC

/-! THE CLASS: refine -/
set_option maxRecDepth 100000
theorem or_add {x y k : Nat} (h : x < 2 ^ k) : x ||| y * 2 ^ k = x + 2 ^ k * y := by
  rw [Nat.or_comm, Nat.mul_comm, ← Nat.two_pow_add_eq_or_of_lt h, Nat.add_comm]
/-- four classes in one number -/
def fS (ν T : Nat → Nat) (i : Nat) : Nat := ((ν i ||| ν (T (3 * i)) * 2 ^ 4) ||| ν (T (3 * i + 1)) * 2 ^ 8) ||| ν (T (3 * i + 2)) * 2 ^ 12
theorem fS_eq {ν T : Nat → Nat} {i : Nat} (h0 : ν i < 16) (h1 : ν (T (3 * i)) < 16) (h2 : ν (T (3 * i + 1)) < 16) : fS ν T i = ν i + 16 * ν (T (3 * i)) + 256 * ν (T (3 * i + 1)) + 4096 * ν (T (3 * i + 2)) := by
  unfold fS
  rw [or_add (k := 4) (by omega), or_add (k := 8) (by omega), or_add (k := 12) (by omega)]
section PP
variable {N : Nat} {e : Nat → Bool} {T ν : Nat → Nat}
theorem fS_inj (hT : ∀ q, q < 3 * N → T q < N) (hν : ∀ i, i < N → ν i < 10) {i j : Nat} (hi : i < N) (hj : j < N) : fS ν T i = fS ν T j ↔ ν i = ν j ∧ ∀ l, l < 3 → ν (T (3 * i + l)) = ν (T (3 * j + l)) := by
  have a0 := hν i hi
  have a1 := hν _ (hT (3 * i) (by omega))
  have a2 := hν _ (hT (3 * i + 1) (by omega))
  have a3 := hν _ (hT (3 * i + 2) (by omega))
  have b0 := hν j hj
  have b1 := hν _ (hT (3 * j) (by omega))
  have b2 := hν _ (hT (3 * j + 1) (by omega))
  have b3 := hν _ (hT (3 * j + 2) (by omega))
  rw [fS_eq (by omega) (by omega) (by omega), fS_eq (by omega) (by omega) (by omega)]
  constructor
  · intro h
    refine ⟨by omega, fun l hl => ?_⟩
    have : l = 0 ∨ l = 1 ∨ l = 2 := by omega
    rcases this with x | x | x <;> subst x
    · show ν (T (3 * i)) = ν (T (3 * j)); omega
    · omega
    · omega
  · rintro ⟨h, hl⟩
    have x0 : ν (T (3 * i)) = ν (T (3 * j)) := hl 0 (by omega)
    have x1 := hl 1 (by omega)
    have x2 := hl 2 (by omega)
    omega
theorem fS_lt (hT : ∀ q, q < 3 * N → T q < N) (hν : ∀ i, i < N → ν i < 10) {i : Nat} (hi : i < N) : fS ν T i < 65536 := by
  have a0 := hν i hi
  have a1 := hν _ (hT (3 * i) (by omega))
  have a2 := hν _ (hT (3 * i + 1) (by omega))
  have a3 := hν _ (hT (3 * i + 2) (by omega))
  rw [fS_eq (by omega) (by omega) (by omega)]
  omega
theorem fS_fine (hw : kWf (bA N e T)) (hT : ∀ q, q < 3 * N → T q < N) (hν : ∀ i, i < N → ν i < 10) (hf : kFine (bA N e T) ν) : kFine (bA N e T) (fS ν T) := by
  refine kFine_step hw hf (fun i hi j hj h1 h2 => (fS_inj hT hν hi hj).mpr ⟨h1, fun l hl => ?_⟩)
  have := h2 l hl
  rw [bA_T (N := N) hi hl, bA_T (N := N) hj hl] at this
  exact this
end PP
/-- a partition into G classes, numbered as they are met -/
def kPt (N G : Nat) (ν : Nat → Nat) : Prop := G ≤ 10 ∧ (∀ i, i < N → ν i < G) ∧ ∀ a, a < G → ∃ k, k < N ∧ ν k = a ∧ ∀ k', k' < k → ν k' < a
/-- what refine may change -/
def RS (L : Nat) (g0 : jG) (I0 : Nat → Nat → Int32) (J0 : Nat → Nat → Int64) (kr rr sr a b c : Nat) (g : jG) (I : Nat → Nat → Int32) (J : Nat → Nat → Int64) (gr fr : Nat) : Prop := mkA L g kr rr sr gr fr c ∧ (gr = a ∧ fr = b ∨ gr = b ∧ fr = a) ∧ g.2.2.2.1 = g0.2.2.2.1 ∧ g.2.2.2.2 = g0.2.2.2.2 ∧ (∀ x, gK L g x = gK L g0 x ∧ gN L g x = gN L g0 x) ∧ (∀ x k, x ≠ 19 → g.2.2.1 x k = g0.2.2.1 x k) ∧ (∀ x, x ≠ a → x ≠ b → x ≠ 19 → I x = I0 x) ∧ (∀ j, j ≠ 16 → I 19 j = I0 19 j) ∧ ∀ y, y ≠ 29 → J y = J0 y
theorem RS_I {L g0 I0 J0 kr rr sr a b c g I J gr fr} {I' : Nat → Nat → Int32} {J' : Nat → Nat → Int64} (h : RS L g0 I0 J0 kr rr sr a b c g I J gr fr) (h1 : ∀ x, x ≠ fr → x ≠ 19 → I' x = I x) (h2 : ∀ j, j ≠ 16 → I' 19 j = I 19 j) (h3 : ∀ y, y ≠ 29 → J' y = J y) : RS L g0 I0 J0 kr rr sr a b c g I' J' gr fr := by
  obtain ⟨r1, r2, r3, r4, r5, r6, r7, r8, r9⟩ := h
  exact ⟨r1, r2, r3, r4, r5, r6, fun x x1 x2 x3 => (h1 x (by omega) x3).trans (r7 x x1 x2 x3), fun j hj => (h2 j hj).trans (r8 j hj), fun y hy => (h3 y hy).trans (r9 y hy)⟩
section CC
variable (d L : Nat)
theorem c_ref_117 {g : jG} {I : Nat → Nat → Int32} {J : Nat → Nat → Int64} {G z a0 : Nat} {σ : Nat → Nat} {x1 x2 x3 : Int32} (h16 : I 19 16 = nI G) (hG : G ≤ 10) (hz : z < 65536) (hσ : ∀ a, a < G → J 29 a = lN (σ a) ∧ σ a < 65536) (ha0 : a0 ≤ G) (hne : ∀ b, b < a0 → σ b ≠ z) (hat : a0 < G → σ a0 = z) : ∀ k a, a + k = a0 → jval d 46 117 [.ref 19, .int x1, .int x2, .int x3, jjunk, .long (lN z), jjunk, .int (nI a)] [] (jGs L g, I, J) = jval d 46 145 [.ref 19, .int x1, .int x2, .int x3, jjunk, .long (lN z), jjunk, .int (nI a0)] [] (jGs L g, I, J) := by
  intro k
  induction k with
  | zero =>
    intro a ha
    have : a = a0 := by omega
    subst this
    rw [e_Maker_refine_117]
    by_cases h : a < G
    · have h1 := hσ a h
      have h2 := hat h
      have h3 := h1.1
      rw [h2] at h3
      simp (disch := omega) only [li_0, li_1, li_2, li_3, li_4, li_5, li_6, li_7, li_8, li_9, li_10, li_11, li_12, li_13, li_14, li_15, li_16, li_17, li_18, li_19, li_20, li_21, li_22, li_23, li_24, li_25, li_26, li_27, li_28, li_29, li_30, li_31, li_32, li_33, li_34, li_35, li_36, li_37, li_38, li_39, li_40, li_41, li_42, li_43, li_44, li_45, li_46, li_47, li_48, li_49, li_50, li_51, li_52, li_53, li_54, li_55, li_56, li_57, li_58, li_59, li_60, li_61, li_62, li_63, li_64, li_65, li_66, li_67, li_68, li_69, li_70, li_71, li_72, li_73, li_74, li_75, li_76, li_77, li_78, li_79, li_80, li_81, li_82, li_83, li_84, li_85, li_86, li_87, li_88, li_89, li_90, li_91, li_92, li_93, li_94, li_95, li_96, li_97, li_98, li_99, li_100, li_101, li_102, li_103, li_104, li_105, li_106, li_107, li_108, li_109, li_110, li_111, li_112, li_113, li_114, li_115, li_116, li_117, li_118, li_119, li_120, li_121, li_122, li_123, li_124, li_125, li_126, li_127, li_128, li_160, li_219, li_220, li_248, li_249, li_250, li_251, li_255, li_999, li_1000, li_1023, li_1024, li_10240, li_999999, li_1048576, li_1048575, nI_add, nI_mul, zi_div, zi_eq, zi_le, zi_lt, zi_in, zi_c, zi_sub, zi_ofN, zi_m1e, zi_m1e', zi_m1lt, zi_m1le, zi_ltm1, zi_lem1, zi_m1m1, jif_T, jif_F, jif_t, jif_f, zb_1, zb_0, zb_01, zb_ft, zn_01a, zn_01b, zi_tst, zi_pow, cond_true, jcI_some, jcV_some, jcJ_some, Nat.reduceAdd, Nat.reduceMul, Nat.reduceSub, reduceCtorEq, Bool.true_eq_false, Bool.false_eq_true, zb_t, zb_f, Nat.add_zero, Nat.zero_add, Nat.mul_zero, Nat.zero_mul, or_true, true_or, or_false, false_or, and_true, true_and, and_false, false_and, not_true_eq_false, not_false_eq_true, zl_and, zl_or, zl_dif, zl_shl, zl_srl, zl_i, zl_w, zl_cmp, zi_b, zi_and, zi_or, zi_sru, jo_some, jo_none, ll_0, ll_1, ll_1048575, ll_1118481, li_16384, li_1073741824, ↓reduceIte, h16, h3]
    · simp (disch := omega) only [li_0, li_1, li_2, li_3, li_4, li_5, li_6, li_7, li_8, li_9, li_10, li_11, li_12, li_13, li_14, li_15, li_16, li_17, li_18, li_19, li_20, li_21, li_22, li_23, li_24, li_25, li_26, li_27, li_28, li_29, li_30, li_31, li_32, li_33, li_34, li_35, li_36, li_37, li_38, li_39, li_40, li_41, li_42, li_43, li_44, li_45, li_46, li_47, li_48, li_49, li_50, li_51, li_52, li_53, li_54, li_55, li_56, li_57, li_58, li_59, li_60, li_61, li_62, li_63, li_64, li_65, li_66, li_67, li_68, li_69, li_70, li_71, li_72, li_73, li_74, li_75, li_76, li_77, li_78, li_79, li_80, li_81, li_82, li_83, li_84, li_85, li_86, li_87, li_88, li_89, li_90, li_91, li_92, li_93, li_94, li_95, li_96, li_97, li_98, li_99, li_100, li_101, li_102, li_103, li_104, li_105, li_106, li_107, li_108, li_109, li_110, li_111, li_112, li_113, li_114, li_115, li_116, li_117, li_118, li_119, li_120, li_121, li_122, li_123, li_124, li_125, li_126, li_127, li_128, li_160, li_219, li_220, li_248, li_249, li_250, li_251, li_255, li_999, li_1000, li_1023, li_1024, li_10240, li_999999, li_1048576, li_1048575, nI_add, nI_mul, zi_div, zi_eq, zi_le, zi_lt, zi_in, zi_c, zi_sub, zi_ofN, zi_m1e, zi_m1e', zi_m1lt, zi_m1le, zi_ltm1, zi_lem1, zi_m1m1, jif_T, jif_F, jif_t, jif_f, zb_1, zb_0, zb_01, zb_ft, zn_01a, zn_01b, zi_tst, zi_pow, cond_true, jcI_some, jcV_some, jcJ_some, Nat.reduceAdd, Nat.reduceMul, Nat.reduceSub, reduceCtorEq, Bool.true_eq_false, Bool.false_eq_true, zb_t, zb_f, Nat.add_zero, Nat.zero_add, Nat.mul_zero, Nat.zero_mul, or_true, true_or, or_false, false_or, and_true, true_and, and_false, false_and, not_true_eq_false, not_false_eq_true, zl_and, zl_or, zl_dif, zl_shl, zl_srl, zl_i, zl_w, zl_cmp, zi_b, zi_and, zi_or, zi_sru, jo_some, jo_none, ll_0, ll_1, ll_1048575, ll_1118481, li_16384, li_1073741824, ↓reduceIte, h16]
  | succ k ih =>
    intro a ha
    have h1 := hσ a (by omega)
    have h2 := hne a (by omega)
    have h3 := h1.2
    rw [e_Maker_refine_117]
    simp (disch := omega) only [li_0, li_1, li_2, li_3, li_4, li_5, li_6, li_7, li_8, li_9, li_10, li_11, li_12, li_13, li_14, li_15, li_16, li_17, li_18, li_19, li_20, li_21, li_22, li_23, li_24, li_25, li_26, li_27, li_28, li_29, li_30, li_31, li_32, li_33, li_34, li_35, li_36, li_37, li_38, li_39, li_40, li_41, li_42, li_43, li_44, li_45, li_46, li_47, li_48, li_49, li_50, li_51, li_52, li_53, li_54, li_55, li_56, li_57, li_58, li_59, li_60, li_61, li_62, li_63, li_64, li_65, li_66, li_67, li_68, li_69, li_70, li_71, li_72, li_73, li_74, li_75, li_76, li_77, li_78, li_79, li_80, li_81, li_82, li_83, li_84, li_85, li_86, li_87, li_88, li_89, li_90, li_91, li_92, li_93, li_94, li_95, li_96, li_97, li_98, li_99, li_100, li_101, li_102, li_103, li_104, li_105, li_106, li_107, li_108, li_109, li_110, li_111, li_112, li_113, li_114, li_115, li_116, li_117, li_118, li_119, li_120, li_121, li_122, li_123, li_124, li_125, li_126, li_127, li_128, li_160, li_219, li_220, li_248, li_249, li_250, li_251, li_255, li_999, li_1000, li_1023, li_1024, li_10240, li_999999, li_1048576, li_1048575, nI_add, nI_mul, zi_div, zi_eq, zi_le, zi_lt, zi_in, zi_c, zi_sub, zi_ofN, zi_m1e, zi_m1e', zi_m1lt, zi_m1le, zi_ltm1, zi_lem1, zi_m1m1, jif_T, jif_F, jif_t, jif_f, zb_1, zb_0, zb_01, zb_ft, zn_01a, zn_01b, zi_tst, zi_pow, cond_true, jcI_some, jcV_some, jcJ_some, Nat.reduceAdd, Nat.reduceMul, Nat.reduceSub, reduceCtorEq, Bool.true_eq_false, Bool.false_eq_true, zb_t, zb_f, Nat.add_zero, Nat.zero_add, Nat.mul_zero, Nat.zero_mul, or_true, true_or, or_false, false_or, and_true, true_and, and_false, false_and, not_true_eq_false, not_false_eq_true, zl_and, zl_or, zl_dif, zl_shl, zl_srl, zl_i, zl_w, zl_cmp, zi_b, zi_and, zi_or, zi_sru, jo_some, jo_none, ll_0, ll_1, ll_1048575, ll_1118481, li_16384, li_1073741824, ↓reduceIte, h16, h1.1, h2]
    exact ih (a + 1) (by omega)
/-- one round -/
theorem c_ref_41 {g0 g : jG} {I0 : Nat → Nat → Int32} {J0 : Nat → Nat → Int64} {kr rr sr a b c gr fr N G : Nat} {T ν : Nat → Nat} {en : Nat → Bool} {x2 : Int32} (hc : c ≤ 14) (hN : N ≤ 2 ^ c) (h7 : I0 19 7 = nI N) (hT : ∀ q, q < 3 * N → T q < N) (hrr : ∀ x, x < 3 * N → I0 rr (4 * (x / 3) + x % 3) = nI (T x)) (hra : rr ≠ a ∧ rr ≠ b) (hB : kWf (bA N en T)) (hBn : kNum (bA N en T)) (hν : ∀ i, i < N → ν i < 10) (hfine : kFine (bA N en T) ν) (hG10 : G ≤ 10) : ∀ k j G' (σ ν' : Nat → Nat) (I : Nat → Nat → Int32) (J : Nat → Nat → Int64), j + k = N → RS L g0 I0 J0 kr rr sr a b c g I J gr fr → (∀ i, i < N → I gr i = nI (ν i)) → I 19 16 = nI G' → G' ≤ 10 → nmb (fS ν T) j G' σ ν' → (∀ x, x < G' → J 29 x = lN (σ x) ∧ σ x < 65536) → (∀ i, i < j → I fr i = nI (ν' i)) →
    (kBig (kL (bA N en T) 0) ∧ ∃ I' J', RS L g0 I0 J0 kr rr sr a b c g I' J' gr fr ∧ jval d 46 41 [.ref 19, .int (nI G), .int x2, .int (nI j), jjunk, jjunk, jjunk, jjunk] [] (jGs L g, I, J) = some (some (.int (nI 0)), (jGs L g, I', J'))) ∨
    ∃ G2 σ2 ν2 g2 I2 J2, nmb (fS ν T) N G2 σ2 ν2 ∧ G2 ≤ 10 ∧ RS L g0 I0 J0 kr rr sr a b c g2 I2 J2 fr gr ∧ I2 19 16 = nI G2 ∧ (∀ i, i < N → I2 fr i = nI (ν2 i)) ∧ jval d 46 41 [.ref 19, .int (nI G), .int x2, .int (nI j), jjunk, jjunk, jjunk, jjunk] [] (jGs L g, I, J) = jval d 46 217 [.ref 19, .int (nI G), .int x2, jjunk, jjunk, jjunk, jjunk, jjunk] [] (jGs L g2, I2, J2) := by
  have hp5 : 2 ^ c ≤ 2 ^ 14 := Nat.pow_le_pow_right (by omega) hc
  intro k
  induction k with
  | zero =>
    intro j G' σ ν' I J hj hR hgr h16 hG' hnm hσ hfr
    have : j = N := by omega
    subst this
    right
    obtain ⟨r1, r2, r3, r4, r5, r6, r7, r8, r9⟩ := id hR
    obtain ⟨a1, a2, a3, a4, a5, a6, a7, a8, a9, a10, a11, a12, a13, a14, a15, a16, a17, a18, a19, a20, a21, a22, a23, a24⟩ := id r1
    obtain ⟨g1, x1, c1, q1, o1, s1, w1⟩ := jgsR_all L g 19 13 (some fr) r0_19_13
    obtain ⟨g2, x2', c2, q2, o2, s2, w2⟩ := jgsR_all L g1 19 14 (some gr) r0_19_14
    have O : ∀ x, gK L g2 x = gK L g x ∧ gN L g2 x = gN L g x := fun x => ⟨(o2 x).1.trans (o1 x).1, (o2 x).2.trans (o1 x).2⟩
    have W : ∀ k, k ≠ 13 → k ≠ 14 → g2.2.2.1 19 k = g.2.2.1 19 k := fun k k1 k2 => by rw [w2 _ _ (Or.inr k2), w1 _ _ (Or.inr k1)]
    have hC : g2.2.2.2.1 = g.2.2.2.1 := c2.trans c1
    refine ⟨G', σ, ν', g2, I, J, hnm, hG', ⟨?_, by omega, hC.trans r3, (q2.trans q1).trans r4, fun x => ⟨(O x).1.trans (r5 x).1, (O x).2.trans (r5 x).2⟩, fun x k hx => by rw [w2 _ _ (Or.inl hx), w1 _ _ (Or.inl hx)]; exact r6 x k hx, r7, r8, r9⟩, h16, hfr, ?_⟩
    · refine ⟨by rw [W 9 (by omega) (by omega)]; exact a1, by rw [W 10 (by omega) (by omega)]; exact a2, by rw [W 11 (by omega) (by omega)]; exact a3, by rw [w2 _ _ (Or.inr (by omega))]; exact s1, s2, (O kr).1.trans a6, (O rr).1.trans a7, (O sr).1.trans a8, (O fr).1.trans a10, (O gr).1.trans a9, (O kr).2.trans a11, (O rr).2.trans a12, (O sr).2.trans a13, (O fr).2.trans a15, (O gr).2.trans a14, a16, a17, a18, fun e => a19 e.symm, by omega, by omega, by omega, by omega, by omega⟩
    · have h7' : I 19 7 = nI j := (r8 7 (by omega)).trans h7
      rw [e_Maker_refine_41, h7', jif_t (nI_le (Nat.le_refl _) (by omega)), a4, a5, jo_some, jo_some, x1, e_Maker_refine_212a, x2']
  | succ k ih =>
    intro j G' σ ν' I J hj hR hgr h16 hG' hnm hσ hfr
    obtain ⟨r1, r2, r3, r4, r5, r6, r7, r8, r9⟩ := id hR
    obtain ⟨a1, a2, a3, a4, a5, a6, a7, a8, a9, a10, a11, a12, a13, a14, a15, a16, a17, a18, a19, a20, a21, a22, a23, a24⟩ := id r1
    have n2 : 19 ≠ rr := ne_K (gK_19 L g) a7 (by omega)
    have n5 : 19 ≠ fr := ne_K (gK_19 L g) a10 (by omega)
    have n6 : 19 ≠ gr := ne_K (gK_19 L g) a9 (by omega)
    have h7' : I 19 7 = nI N := (r8 7 (by omega)).trans h7
    have hz := fS_lt (T := T) hT hν (show j < N by omega)
    have t0 := hT (3 * j) (by omega)
    have t1 := hT (3 * j + 1) (by omega)
    have t2 := hT (3 * j + 2) (by omega)
    have hrow : ∀ x, x < 3 * N → I rr (4 * (x / 3) + x % 3) = nI (T x) := fun x hx => by rw [r7 rr hra.1 hra.2 (by omega)]; exact hrr x hx
    have u0 : I rr (4 * j) = nI (T (3 * j)) := by
      have := hrow (3 * j) (by omega)
      rw [show 4 * (3 * j / 3) + 3 * j % 3 = 4 * j by omega] at this
      exact this
    have u1 : I rr (4 * j + 1) = nI (T (3 * j + 1)) := by
      have := hrow (3 * j + 1) (by omega)
      rw [show 4 * ((3 * j + 1) / 3) + (3 * j + 1) % 3 = 4 * j + 1 by omega] at this
      exact this
    have u2 : I rr (4 * j + 2) = nI (T (3 * j + 2)) := by
      have := hrow (3 * j + 2) (by omega)
      rw [show 4 * ((3 * j + 2) / 3) + (3 * j + 2) % 3 = 4 * j + 2 by omega] at this
      exact this
    have v := hgr j (by omega)
    have v0 := hgr _ t0
    have v1 := hgr _ t1
    have v2 := hgr _ t2
    have y0 := hν _ (show j < N by omega)
    have y1 := hν _ t0
    have y2 := hν _ t1
    have y3 := hν _ t2
    have k2 : (jGs L g).1 rr = 15 := a7
    have k4 : (jGs L g).1 gr = 14 := a9
    have k5 : (jGs L g).1 fr = 14 := a10
    have l2 : (jGs L g).2.1 rr = 4 * 2 ^ c := a12
    have l4 : (jGs L g).2.1 gr = 2 ^ c := a14
    have l5 : (jGs L g).2.1 fr = 2 ^ c := a15
    have hzf : fS ν T j = ((ν j ||| ν (T (3 * j)) * 2 ^ 4) ||| ν (T (3 * j + 1)) * 2 ^ 8) ||| ν (T (3 * j + 2)) * 2 ^ 12 := rfl
    have hz2 : ((ν j ||| ν (T (3 * j)) * 2 ^ 4) ||| ν (T (3 * j + 1)) * 2 ^ 8) ||| ν (T (3 * j + 2)) * 2 ^ 12 < 2147483648 := by rw [← hzf]; omega
    have e41 : jval d 46 41 [.ref 19, .int (nI G), .int x2, .int (nI j), jjunk, jjunk, jjunk, jjunk] [] (jGs L g, I, J) = jval d 46 117 [.ref 19, .int (nI G), .int x2, .int (nI j), jjunk, .long (lN (fS ν T j)), jjunk, .int (nI 0)] [] (jGs L g, I, J) := by
      rw [e_Maker_refine_41]
      simp (disch := omega) only [li_0, li_1, li_2, li_3, li_4, li_5, li_6, li_7, li_8, li_9, li_10, li_11, li_12, li_13, li_14, li_15, li_16, li_17, li_18, li_19, li_20, li_21, li_22, li_23, li_24, li_25, li_26, li_27, li_28, li_29, li_30, li_31, li_32, li_33, li_34, li_35, li_36, li_37, li_38, li_39, li_40, li_41, li_42, li_43, li_44, li_45, li_46, li_47, li_48, li_49, li_50, li_51, li_52, li_53, li_54, li_55, li_56, li_57, li_58, li_59, li_60, li_61, li_62, li_63, li_64, li_65, li_66, li_67, li_68, li_69, li_70, li_71, li_72, li_73, li_74, li_75, li_76, li_77, li_78, li_79, li_80, li_81, li_82, li_83, li_84, li_85, li_86, li_87, li_88, li_89, li_90, li_91, li_92, li_93, li_94, li_95, li_96, li_97, li_98, li_99, li_100, li_101, li_102, li_103, li_104, li_105, li_106, li_107, li_108, li_109, li_110, li_111, li_112, li_113, li_114, li_115, li_116, li_117, li_118, li_119, li_120, li_121, li_122, li_123, li_124, li_125, li_126, li_127, li_128, li_160, li_219, li_220, li_248, li_249, li_250, li_251, li_255, li_999, li_1000, li_1023, li_1024, li_10240, li_999999, li_1048576, li_1048575, nI_add, nI_mul, zi_div, zi_eq, zi_le, zi_lt, zi_in, zi_c, zi_sub, zi_ofN, zi_m1e, zi_m1e', zi_m1lt, zi_m1le, zi_ltm1, zi_lem1, zi_m1m1, jif_T, jif_F, jif_t, jif_f, zb_1, zb_0, zb_01, zb_ft, zn_01a, zn_01b, zi_tst, zi_pow, cond_true, jcI_some, jcV_some, jcJ_some, Nat.reduceAdd, Nat.reduceMul, Nat.reduceSub, reduceCtorEq, Bool.true_eq_false, Bool.false_eq_true, zb_t, zb_f, Nat.add_zero, Nat.zero_add, Nat.mul_zero, Nat.zero_mul, or_true, true_or, or_false, false_or, and_true, true_and, and_false, false_and, not_true_eq_false, not_false_eq_true, jo_some, ↓reduceIte, zi_shl, zi_or, zl_w, a2, a4, k2, k4, l2, l4, h7', u0, u1, u2, v, v0, v1, v2]
      rfl
    rw [e41]
    have hfin : ∀ (I1 : Nat → Nat → Int32) (J1 : Nat → Nat → Int64) (G1 x : Nat) (σ1 : Nat → Nat), x < 10 → (∀ y, y ≠ 19 → I1 y = I y) → (∀ y, y ≠ 16 → I1 19 y = I 19 y) → I1 19 16 = nI G1 → G1 ≤ 10 → (∀ y, y ≠ 29 → J1 y = J y) → (∀ y, y < G1 → J1 29 y = lN (σ1 y) ∧ σ1 y < 65536) → nmb (fS ν T) (j + 1) G1 σ1 (jup ν' j x) →
      (kBig (kL (bA N en T) 0) ∧ ∃ I' J', RS L g0 I0 J0 kr rr sr a b c g I' J' gr fr ∧ jval d 46 184 [.ref 19, .int (nI G), .int x2, .int (nI j), jjunk, jjunk, jjunk, .int (nI x)] [] (jGs L g, I1, J1) = some (some (.int (nI 0)), (jGs L g, I', J'))) ∨
      ∃ G2 σ2 ν2 g2 I2 J2, nmb (fS ν T) N G2 σ2 ν2 ∧ G2 ≤ 10 ∧ RS L g0 I0 J0 kr rr sr a b c g2 I2 J2 fr gr ∧ I2 19 16 = nI G2 ∧ (∀ i, i < N → I2 fr i = nI (ν2 i)) ∧ jval d 46 184 [.ref 19, .int (nI G), .int x2, .int (nI j), jjunk, jjunk, jjunk, .int (nI x)] [] (jGs L g, I1, J1) = jval d 46 217 [.ref 19, .int (nI G), .int x2, jjunk, jjunk, jjunk, jjunk, jjunk] [] (jGs L g2, I2, J2) := by
      intro I1 J1 G1 x σ1 hx p1 p2 p3 p4 p5 p6 p7
      have e184 : jval d 46 184 [.ref 19, .int (nI G), .int x2, .int (nI j), jjunk, jjunk, jjunk, .int (nI x)] [] (jGs L g, I1, J1) = jval d 46 41 [.ref 19, .int (nI G), .int x2, .int (nI (j + 1)), jjunk, jjunk, jjunk, jjunk] [] (jGs L g, ju I1 fr j (nI x), J1) := by
        rw [e_Maker_refine_184]
        simp (disch := omega) only [li_0, li_1, li_2, li_3, li_4, li_5, li_6, li_7, li_8, li_9, li_10, li_11, li_12, li_13, li_14, li_15, li_16, li_17, li_18, li_19, li_20, li_21, li_22, li_23, li_24, li_25, li_26, li_27, li_28, li_29, li_30, li_31, li_32, li_33, li_34, li_35, li_36, li_37, li_38, li_39, li_40, li_41, li_42, li_43, li_44, li_45, li_46, li_47, li_48, li_49, li_50, li_51, li_52, li_53, li_54, li_55, li_56, li_57, li_58, li_59, li_60, li_61, li_62, li_63, li_64, li_65, li_66, li_67, li_68, li_69, li_70, li_71, li_72, li_73, li_74, li_75, li_76, li_77, li_78, li_79, li_80, li_81, li_82, li_83, li_84, li_85, li_86, li_87, li_88, li_89, li_90, li_91, li_92, li_93, li_94, li_95, li_96, li_97, li_98, li_99, li_100, li_101, li_102, li_103, li_104, li_105, li_106, li_107, li_108, li_109, li_110, li_111, li_112, li_113, li_114, li_115, li_116, li_117, li_118, li_119, li_120, li_121, li_122, li_123, li_124, li_125, li_126, li_127, li_128, li_160, li_219, li_220, li_248, li_249, li_250, li_251, li_255, li_999, li_1000, li_1023, li_1024, li_10240, li_999999, li_1048576, li_1048575, nI_add, nI_mul, zi_div, zi_eq, zi_le, zi_lt, zi_in, zi_c, zi_sub, zi_ofN, zi_m1e, zi_m1e', zi_m1lt, zi_m1le, zi_ltm1, zi_lem1, zi_m1m1, jif_T, jif_F, jif_t, jif_f, zb_1, zb_0, zb_01, zb_ft, zn_01a, zn_01b, zi_tst, zi_pow, cond_true, jcI_some, jcV_some, jcJ_some, Nat.reduceAdd, Nat.reduceMul, Nat.reduceSub, reduceCtorEq, Bool.true_eq_false, Bool.false_eq_true, zb_t, zb_f, Nat.add_zero, Nat.zero_add, Nat.mul_zero, Nat.zero_mul, or_true, true_or, or_false, false_or, and_true, true_and, and_false, false_and, not_true_eq_false, not_false_eq_true, jo_some, ↓reduceIte, zi_b, a5, k5, l5]
      rw [e184]
      refine ih (j + 1) G1 σ1 (jup ν' j x) (ju I1 fr j (nI x)) J1 (by omega) (RS_I hR (fun y y1 y2 => by rw [ju_n y1]; exact p1 y y2) (fun y hy => by rw [zu_a n5]; exact p2 y hy) p5) (fun i hi => by rw [zu_a a19, p1 gr (by omega)]; exact hgr i hi) (by rw [zu_a n5]; exact p3) p4 p7 p6 (fun i hi => ?_)
      by_cases hij : i = j
      · rw [hij, zu_at, jup_s]
      · rw [zu_k hij, jup_n hij, p1 fr (by omega)]; exact hfr i (by omega)
    by_cases hk : ∃ x, x < G' ∧ σ x = fS ν T j
    · obtain ⟨x, ⟨hx1, hx2⟩, hx3⟩ := pk_least _ hk
      rw [c_ref_117 d L h16 hG' hz hσ (by omega) (fun y hy hye => hx3 y hy ⟨by omega, hye⟩) (fun _ => hx2) x 0 (by omega)]
      have e145 : jval d 46 145 [.ref 19, .int (nI G), .int x2, .int (nI j), jjunk, .long (lN (fS ν T j)), jjunk, .int (nI x)] [] (jGs L g, I, J) = jval d 46 184 [.ref 19, .int (nI G), .int x2, .int (nI j), jjunk, jjunk, jjunk, .int (nI x)] [] (jGs L g, I, J) := by
        have hne : ¬ x = G' := by omega
        rw [e_Maker_refine_145]
        simp (disch := omega) only [li_0, li_1, li_2, li_3, li_4, li_5, li_6, li_7, li_8, li_9, li_10, li_11, li_12, li_13, li_14, li_15, li_16, li_17, li_18, li_19, li_20, li_21, li_22, li_23, li_24, li_25, li_26, li_27, li_28, li_29, li_30, li_31, li_32, li_33, li_34, li_35, li_36, li_37, li_38, li_39, li_40, li_41, li_42, li_43, li_44, li_45, li_46, li_47, li_48, li_49, li_50, li_51, li_52, li_53, li_54, li_55, li_56, li_57, li_58, li_59, li_60, li_61, li_62, li_63, li_64, li_65, li_66, li_67, li_68, li_69, li_70, li_71, li_72, li_73, li_74, li_75, li_76, li_77, li_78, li_79, li_80, li_81, li_82, li_83, li_84, li_85, li_86, li_87, li_88, li_89, li_90, li_91, li_92, li_93, li_94, li_95, li_96, li_97, li_98, li_99, li_100, li_101, li_102, li_103, li_104, li_105, li_106, li_107, li_108, li_109, li_110, li_111, li_112, li_113, li_114, li_115, li_116, li_117, li_118, li_119, li_120, li_121, li_122, li_123, li_124, li_125, li_126, li_127, li_128, li_160, li_219, li_220, li_248, li_249, li_250, li_251, li_255, li_999, li_1000, li_1023, li_1024, li_10240, li_999999, li_1048576, li_1048575, nI_add, nI_mul, zi_div, zi_eq, zi_le, zi_lt, zi_in, zi_c, zi_sub, zi_ofN, zi_m1e, zi_m1e', zi_m1lt, zi_m1le, zi_ltm1, zi_lem1, zi_m1m1, jif_T, jif_F, jif_t, jif_f, zb_1, zb_0, zb_01, zb_ft, zn_01a, zn_01b, zi_tst, zi_pow, cond_true, jcI_some, jcV_some, jcJ_some, Nat.reduceAdd, Nat.reduceMul, Nat.reduceSub, reduceCtorEq, Bool.true_eq_false, Bool.false_eq_true, zb_t, zb_f, Nat.add_zero, Nat.zero_add, Nat.mul_zero, Nat.zero_mul, or_true, true_or, or_false, false_or, and_true, true_and, and_false, false_and, not_true_eq_false, not_false_eq_true, h16, hne]
      rw [e145]
      exact hfin I J G' x σ (by omega) (fun _ _ => rfl) (fun _ _ => rfl) h16 hG' (fun _ _ => rfl) hσ (nmb_old hnm hx1 hx2)
    · have hk' : ∀ y, y < G' → σ y ≠ fS ν T j := fun y hy hye => hk ⟨y, hy, hye⟩
      rw [c_ref_117 d L h16 hG' hz hσ (Nat.le_refl _) hk' (fun h => absurd h (by omega)) G' 0 (by omega)]
      by_cases h10 : G' = 10
      · left
        subst h10
        refine ⟨?_, I, J, hR, ?_⟩
        · have hrep : ∀ x, ∃ k, x < 10 → k < j ∧ ν' k = x := fun x => by
            by_cases hx : x < 10
            · obtain ⟨k, k1, k2, -⟩ := hnm.2.2 x hx
              exact ⟨k, fun _ => ⟨k1, k2⟩⟩
            · exact ⟨0, fun h => absurd h hx⟩
          obtain ⟨rep, hrp⟩ := Classical.axiomOfChoice hrep
          have hsg : ∀ x, x < 10 → fS ν T (rep x) = σ x := fun x hx => by
            have h1 := hrp x hx
            have h2 := (hnm.2.1 _ h1.1).2
            rw [h1.2] at h2
            exact h2.symm
          refine kBig_cls hB hBn (fS_fine hB hT hν hfine) (fun x => if x < 10 then rep x else j) (fun x hx => ?_) (fun x hx y hy he => ?_)
          · show _ < N
            by_cases h : x < 10
            · rw [if_pos h]; have := (hrp x h).1; omega
            · rw [if_neg h]; omega
          · by_cases hx1 : x < 10
            · by_cases hy1 : y < 10
              · rw [if_pos hx1, if_pos hy1, hsg x hx1, hsg y hy1] at he
                exact hnm.1 x hx1 y hy1 he
              · rw [if_pos hx1, if_neg hy1, hsg x hx1] at he
                exact absurd he (hk' x hx1)
            · by_cases hy1 : y < 10
              · rw [if_neg hx1, if_pos hy1, hsg y hy1] at he
                exact absurd he.symm (hk' y hy1)
              · omega
        · rw [e_Maker_refine_145]
          simp (disch := omega) only [li_0, li_1, li_2, li_3, li_4, li_5, li_6, li_7, li_8, li_9, li_10, li_11, li_12, li_13, li_14, li_15, li_16, li_17, li_18, li_19, li_20, li_21, li_22, li_23, li_24, li_25, li_26, li_27, li_28, li_29, li_30, li_31, li_32, li_33, li_34, li_35, li_36, li_37, li_38, li_39, li_40, li_41, li_42, li_43, li_44, li_45, li_46, li_47, li_48, li_49, li_50, li_51, li_52, li_53, li_54, li_55, li_56, li_57, li_58, li_59, li_60, li_61, li_62, li_63, li_64, li_65, li_66, li_67, li_68, li_69, li_70, li_71, li_72, li_73, li_74, li_75, li_76, li_77, li_78, li_79, li_80, li_81, li_82, li_83, li_84, li_85, li_86, li_87, li_88, li_89, li_90, li_91, li_92, li_93, li_94, li_95, li_96, li_97, li_98, li_99, li_100, li_101, li_102, li_103, li_104, li_105, li_106, li_107, li_108, li_109, li_110, li_111, li_112, li_113, li_114, li_115, li_116, li_117, li_118, li_119, li_120, li_121, li_122, li_123, li_124, li_125, li_126, li_127, li_128, li_160, li_219, li_220, li_248, li_249, li_250, li_251, li_255, li_999, li_1000, li_1023, li_1024, li_10240, li_999999, li_1048576, li_1048575, nI_add, nI_mul, zi_div, zi_eq, zi_le, zi_lt, zi_in, zi_c, zi_sub, zi_ofN, zi_m1e, zi_m1e', zi_m1lt, zi_m1le, zi_ltm1, zi_lem1, zi_m1m1, jif_T, jif_F, jif_t, jif_f, zb_1, zb_0, zb_01, zb_ft, zn_01a, zn_01b, zi_tst, zi_pow, cond_true, jcI_some, jcV_some, jcJ_some, Nat.reduceAdd, Nat.reduceMul, Nat.reduceSub, reduceCtorEq, Bool.true_eq_false, Bool.false_eq_true, zb_t, zb_f, Nat.add_zero, Nat.zero_add, Nat.mul_zero, Nat.zero_mul, or_true, true_or, or_false, false_or, and_true, true_and, and_false, false_and, not_true_eq_false, not_false_eq_true, h16]
      · have e145 : jval d 46 145 [.ref 19, .int (nI G), .int x2, .int (nI j), jjunk, .long (lN (fS ν T j)), jjunk, .int (nI G')] [] (jGs L g, I, J) = jval d 46 184 [.ref 19, .int (nI G), .int x2, .int (nI j), jjunk, jjunk, jjunk, .int (nI G')] [] (jGs L g, ju I 19 16 (nI (G' + 1)), ju J 29 G' (lN (fS ν T j))) := by
          rw [e_Maker_refine_145]
          simp (disch := omega) only [li_0, li_1, li_2, li_3, li_4, li_5, li_6, li_7, li_8, li_9, li_10, li_11, li_12, li_13, li_14, li_15, li_16, li_17, li_18, li_19, li_20, li_21, li_22, li_23, li_24, li_25, li_26, li_27, li_28, li_29, li_30, li_31, li_32, li_33, li_34, li_35, li_36, li_37, li_38, li_39, li_40, li_41, li_42, li_43, li_44, li_45, li_46, li_47, li_48, li_49, li_50, li_51, li_52, li_53, li_54, li_55, li_56, li_57, li_58, li_59, li_60, li_61, li_62, li_63, li_64, li_65, li_66, li_67, li_68, li_69, li_70, li_71, li_72, li_73, li_74, li_75, li_76, li_77, li_78, li_79, li_80, li_81, li_82, li_83, li_84, li_85, li_86, li_87, li_88, li_89, li_90, li_91, li_92, li_93, li_94, li_95, li_96, li_97, li_98, li_99, li_100, li_101, li_102, li_103, li_104, li_105, li_106, li_107, li_108, li_109, li_110, li_111, li_112, li_113, li_114, li_115, li_116, li_117, li_118, li_119, li_120, li_121, li_122, li_123, li_124, li_125, li_126, li_127, li_128, li_160, li_219, li_220, li_248, li_249, li_250, li_251, li_255, li_999, li_1000, li_1023, li_1024, li_10240, li_999999, li_1048576, li_1048575, nI_add, nI_mul, zi_div, zi_eq, zi_le, zi_lt, zi_in, zi_c, zi_sub, zi_ofN, zi_m1e, zi_m1e', zi_m1lt, zi_m1le, zi_ltm1, zi_lem1, zi_m1m1, jif_T, jif_F, jif_t, jif_f, zb_1, zb_0, zb_01, zb_ft, zn_01a, zn_01b, zi_tst, zi_pow, cond_true, jcI_some, jcV_some, jcJ_some, Nat.reduceAdd, Nat.reduceMul, Nat.reduceSub, reduceCtorEq, Bool.true_eq_false, Bool.false_eq_true, zb_t, zb_f, Nat.add_zero, Nat.zero_add, Nat.mul_zero, Nat.zero_mul, or_true, true_or, or_false, false_or, and_true, true_and, and_false, false_and, not_true_eq_false, not_false_eq_true, h16]
        rw [e145]
        exact hfin _ _ (G' + 1) G' (jup σ G' (fS ν T j)) (by omega) (fun y hy => ju_n hy) (fun y hy => zu_k hy) (zu_at _ _ _ _) (by omega) (fun y hy => ju_n hy) (fun y hy => by
          by_cases hyG : y = G'
          · rw [hyG, zu_at, jup_s]; exact ⟨rfl, hz⟩
          · rw [zu_k hyG, jup_n hyG]; exact hσ y (by omega)) (nmb_new hnm hk')
end CC

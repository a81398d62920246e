/-! THE CLASS: machines are described; what finish makes of them -/
set_option maxRecDepth 100000
/-- the steps of three letters in one number -/
def pk3 (f : Nat → Nat) : Nat := (f 0 ||| f 1 * 2 ^ 20) ||| f 2 * 2 ^ 40
theorem pk3_0 : pk3 (fun _ => 0) = 0 := by decide
theorem pk3_lt {f : Nat → Nat} (h : ∀ l, f l < 1048576) : pk3 f < 1152921504606846976 := by
  have h0 := h 0
  have h1 := h 1
  have h2 := h 2
  exact Nat.or_lt_two_pow (n := 60) (Nat.or_lt_two_pow (by omega) (by omega)) (by omega)
theorem pk3_bit (f : Nat → Nat) (i : Nat) : (pk3 f).testBit i = (((f 0).testBit i || (decide (20 ≤ i) && (f 1).testBit (i - 20))) || (decide (40 ≤ i) && (f 2).testBit (i - 40))) := by
  unfold pk3
  rw [Nat.testBit_or, Nat.testBit_or, mul_pow_bit, mul_pow_bit]
theorem bit_20 {x i : Nat} (h : x < 1048576) (hi : 20 ≤ i) : x.testBit i = false := Nat.testBit_lt_two_pow (Nat.lt_of_lt_of_le h (show (1048576 : Nat) ≤ 2 ^ i from Nat.pow_le_pow_right (n := 2) (i := 20) (by omega) hi))
theorem sT_pk3 {f : Nat → Nat} (h : ∀ l, f l < 1048576) {l : Nat} (hl : l < 3) : sT (pk3 f) l = f l := by
  apply Nat.eq_of_testBit_eq
  intro b
  unfold sT
  rw [show (1048576 : Nat) = 2 ^ 20 from rfl, Nat.testBit_mod_two_pow, Nat.testBit_div_two_pow, pk3_bit]
  by_cases hb : b < 20
  · rw [decide_eq_true hb, Bool.true_and]
    have : l = 0 ∨ l = 1 ∨ l = 2 := by omega
    rcases this with e | e | e <;> subst e
    · rw [decide_eq_false (by omega), decide_eq_false (by omega), Bool.false_and, Bool.false_and, Bool.or_false, Bool.or_false, Nat.mul_zero, Nat.add_zero]
    · rw [bit_20 (h 0) (by omega), Bool.false_or, decide_eq_true (by omega), decide_eq_false (by omega), Bool.true_and, Bool.false_and, Bool.or_false, show b + 20 * 1 - 20 = b by omega]
    · rw [bit_20 (h 0) (by omega), Bool.false_or, decide_eq_true (by omega), decide_eq_true (by omega), Bool.true_and, Bool.true_and, bit_20 (h 1) (by omega), Bool.false_or, show b + 20 * 2 - 40 = b by omega]
  · rw [decide_eq_false hb, Bool.false_and, bit_20 (h l) (by omega)]
theorem pk3_or {f : Nat → Nat} {l t : Nat} (hl : l < 3) : pk3 f ||| t * 2 ^ (20 * l) = pk3 (jup f l (f l ||| t)) := by
  apply Nat.eq_of_testBit_eq
  intro i
  rw [Nat.testBit_or, mul_pow_bit, pk3_bit, pk3_bit]
  have : l = 0 ∨ l = 1 ∨ l = 2 := by omega
  rcases this with e | e | e <;> subst e
  · rw [jup_s, jup_n (by omega), jup_n (by omega), Nat.testBit_or, Nat.mul_zero, decide_eq_true (Nat.zero_le i), Nat.sub_zero]
    cases (f 0).testBit i <;> cases t.testBit i <;> simp
  · rw [jup_s, jup_n (by omega), jup_n (by omega), Nat.testBit_or, show 20 * 1 = 20 from rfl]
    cases decide (20 ≤ i) <;> cases (f 1).testBit (i - 20) <;> cases t.testBit (i - 20) <;> simp
  · rw [jup_s, jup_n (by omega), jup_n (by omega), Nat.testBit_or, show 20 * 2 = 40 from rfl]
    cases decide (40 ≤ i) <;> cases (f 2).testBit (i - 40) <;> cases t.testBit (i - 40) <;> simp
theorem pk3_cg {f f' : Nat → Nat} (h : ∀ l, l < 3 → f' l = f l) : pk3 f' = pk3 f := by
  unfold pk3
  rw [h 0 (by omega), h 1 (by omega), h 2 (by omega)]
/-- a machine's nodes and steps -/
def mkU (I : Nat → Nat → Int32) (J : Nat → Nat → Int64) (n s m : Nat) (F : Nat → Nat → Nat) : Prop := I 19 4 = nI n ∧ I 19 5 = nI s ∧ I 19 6 = nI m ∧ n ≤ 20 ∧ s ≤ 20 ∧ m < 3 ∧ (∀ q, q < n → J 20 q = lN (pk3 (F q))) ∧ ∀ q l, F q l < 1048576
theorem mkI_cg {L g PC PQ} {I I' : Nat → Nat → Int32} (h : mkI L g I PC PQ) (h7 : I' 19 7 = I 19 7) (h12 : I' 19 12 = I 19 12) (hr : ∀ a, a ≠ 19 → I' a = I a) : mkI L g I' PC PQ := by
  obtain ⟨kr, rr, sr, gr, fr, c, base, N, z1, z2, z3, z4, z5, z6, z7, z8⟩ := h
  have n9 : sr ≠ 19 := ne_K z1.2.2.2.2.2.2.2.1 (gK_19 L g) (by omega)
  exact ⟨kr, rr, sr, gr, fr, c, base, N, z1, z2, z3, h7.trans z4, h12.trans z5, z6, fun x hx => by rw [hr sr n9]; exact z7 x hx, z8⟩
section CC
variable (d L : Nat) (g : jG)
theorem c_begin_31 {I : Nat → Nat → Int32} {n : Nat} (h4 : I 19 4 = nI n) (hn : n ≤ 20) : ∀ k j (J : Nat → Nat → Int64), j + k = n → (∀ q, q < j → J 20 q = lN 0) → ∃ J', (∀ b, b ≠ 20 → J' b = J b) ∧ (∀ q, q < n → J' 20 q = lN 0) ∧ jval d 28 31 [.ref 19, jjunk, .int (nI j)] [] (jGs L g, I, J) = some (none, (jGs L g, I, J')) := by
  intro k
  induction k with
  | zero =>
    intro j J hj h
    have : j = n := by omega
    subst this
    refine ⟨J, fun _ _ => rfl, h, ?_⟩
    rw [e_Maker_begin_31]
    simp (disch := omega) only [li_0, li_1, li_2, li_3, li_4, li_5, li_6, li_7, li_8, li_9, li_10, li_11, li_12, li_13, li_14, li_15, li_16, li_17, li_18, li_19, li_20, li_21, li_22, li_23, li_24, li_25, li_26, li_27, li_28, li_29, li_30, li_31, li_32, li_33, li_34, li_35, li_36, li_37, li_38, li_39, li_40, li_41, li_42, li_43, li_44, li_45, li_46, li_47, li_48, li_49, li_50, li_51, li_52, li_53, li_54, li_55, li_56, li_57, li_58, li_59, li_60, li_61, li_62, li_63, li_64, li_65, li_66, li_67, li_68, li_69, li_70, li_71, li_72, li_73, li_74, li_75, li_76, li_77, li_78, li_79, li_80, li_81, li_82, li_83, li_84, li_85, li_86, li_87, li_88, li_89, li_90, li_91, li_92, li_93, li_94, li_95, li_96, li_97, li_98, li_99, li_100, li_101, li_102, li_103, li_104, li_105, li_106, li_107, li_108, li_109, li_110, li_111, li_112, li_113, li_114, li_115, li_116, li_117, li_118, li_119, li_120, li_121, li_122, li_123, li_124, li_125, li_126, li_127, li_128, li_160, li_219, li_220, li_248, li_249, li_250, li_251, li_255, li_999, li_1000, li_1023, li_1024, li_10240, li_999999, li_1048576, li_1048575, nI_add, nI_mul, zi_div, zi_eq, zi_le, zi_lt, zi_in, zi_c, zi_sub, zi_ofN, zi_m1e, zi_m1e', zi_m1lt, zi_m1le, zi_ltm1, zi_lem1, zi_m1m1, jif_T, jif_F, jif_t, jif_f, zb_1, zb_0, zb_01, zb_ft, zn_01a, zn_01b, zi_tst, zi_pow, cond_true, jcI_some, jcV_some, jcJ_some, Nat.reduceAdd, Nat.reduceMul, Nat.reduceSub, reduceCtorEq, Bool.true_eq_false, Bool.false_eq_true, zb_t, zb_f, Nat.add_zero, Nat.zero_add, Nat.mul_zero, Nat.zero_mul, or_true, true_or, or_false, false_or, and_true, true_and, and_false, false_and, not_true_eq_false, not_false_eq_true, h4]
  | succ k ih =>
    intro j J hj h
    obtain ⟨J', q1, q2, q3⟩ := ih (j + 1) (ju J 20 j (lN 0)) (by omega) (fun q hq => by
      by_cases hqj : q = j
      · rw [hqj, zu_at]
      · rw [zu_k hqj]; exact h q (by omega))
    refine ⟨J', fun b hb => (q1 b hb).trans (ju_n hb), q2, ?_⟩
    rw [e_Maker_begin_31]
    simp (disch := omega) only [li_0, li_1, li_2, li_3, li_4, li_5, li_6, li_7, li_8, li_9, li_10, li_11, li_12, li_13, li_14, li_15, li_16, li_17, li_18, li_19, li_20, li_21, li_22, li_23, li_24, li_25, li_26, li_27, li_28, li_29, li_30, li_31, li_32, li_33, li_34, li_35, li_36, li_37, li_38, li_39, li_40, li_41, li_42, li_43, li_44, li_45, li_46, li_47, li_48, li_49, li_50, li_51, li_52, li_53, li_54, li_55, li_56, li_57, li_58, li_59, li_60, li_61, li_62, li_63, li_64, li_65, li_66, li_67, li_68, li_69, li_70, li_71, li_72, li_73, li_74, li_75, li_76, li_77, li_78, li_79, li_80, li_81, li_82, li_83, li_84, li_85, li_86, li_87, li_88, li_89, li_90, li_91, li_92, li_93, li_94, li_95, li_96, li_97, li_98, li_99, li_100, li_101, li_102, li_103, li_104, li_105, li_106, li_107, li_108, li_109, li_110, li_111, li_112, li_113, li_114, li_115, li_116, li_117, li_118, li_119, li_120, li_121, li_122, li_123, li_124, li_125, li_126, li_127, li_128, li_160, li_219, li_220, li_248, li_249, li_250, li_251, li_255, li_999, li_1000, li_1023, li_1024, li_10240, li_999999, li_1048576, li_1048575, nI_add, nI_mul, zi_div, zi_eq, zi_le, zi_lt, zi_in, zi_c, zi_sub, zi_ofN, zi_m1e, zi_m1e', zi_m1lt, zi_m1le, zi_ltm1, zi_lem1, zi_m1m1, jif_T, jif_F, jif_t, jif_f, zb_1, zb_0, zb_01, zb_ft, zn_01a, zn_01b, zi_tst, zi_pow, cond_true, jcI_some, jcV_some, jcJ_some, Nat.reduceAdd, Nat.reduceMul, Nat.reduceSub, reduceCtorEq, Bool.true_eq_false, Bool.false_eq_true, zb_t, zb_f, Nat.add_zero, Nat.zero_add, Nat.mul_zero, Nat.zero_mul, or_true, true_or, or_false, false_or, and_true, true_and, and_false, false_and, not_true_eq_false, not_false_eq_true, ll_0, h4]
    exact q3
theorem c_begin {I : Nat → Nat → Int32} {J : Nat → Nat → Int64} {n : Nat} (hn : n ≤ 20) : ∃ J', (∀ b, b ≠ 20 → J' b = J b) ∧ mkU (ju (ju (ju I 19 4 (nI n)) 19 5 (nI n)) 19 6 (nI 0)) J' n n 0 (fun _ _ => 0) ∧ jcall (d + 1) 28 [.ref 19, .int (nI n)] (jGs L g, I, J) = some (none, (jGs L g, ju (ju (ju I 19 4 (nI n)) 19 5 (nI n)) 19 6 (nI 0), J')) := by
  obtain ⟨J', q1, q2, q3⟩ := c_begin_31 d L g (I := ju (ju (ju I 19 4 (nI n)) 19 5 (nI n)) 19 6 (nI 0)) (by rw [zu_k (by omega), zu_k (by omega), zu_at]) hn n 0 J (by omega) (fun q hq => absurd hq (by omega))
  refine ⟨J', q1, ⟨by rw [zu_k (by omega), zu_k (by omega), zu_at], by rw [zu_k (by omega), zu_at], zu_at _ _ _ _, hn, hn, by omega, fun q hq => by rw [q2 q hq]; show lN 0 = lN (pk3 (fun _ => 0)); rw [pk3_0], fun _ _ => by show 0 < 1048576; omega⟩, ?_⟩
  rw [c_Maker_begin, e_Maker_begin_0, jif_t (show nI n ≤ (20 : Int32) from nI_le (a := n) (b := 20) hn (by omega)), e_Maker_begin_13]
  exact q3
theorem c_addStep {I : Nat → Nat → Int32} {J : Nat → Nat → Int64} {q l t st : Nat} (hq : q < 20) (hl : l < 3) (ht : t < 1048576) (hJ : J 20 q = lN st) : jcall (d + 1) 29 [.ref 19, .int (nI q), .int (nI l), .int (nI t)] (jGs L g, I, J) = some (none, (jGs L g, I, ju J 20 q (lN (st ||| t * 2 ^ (20 * l))))) := by
  have hm : t &&& 1048575 = t := by rw [zn_m20, Nat.mod_eq_of_lt ht]
  rw [c_Maker_addStep, e_Maker_addStep_0]
  simp (disch := omega) only [li_0, li_1, li_2, li_3, li_4, li_5, li_6, li_7, li_8, li_9, li_10, li_11, li_12, li_13, li_14, li_15, li_16, li_17, li_18, li_19, li_20, li_21, li_22, li_23, li_24, li_25, li_26, li_27, li_28, li_29, li_30, li_31, li_32, li_33, li_34, li_35, li_36, li_37, li_38, li_39, li_40, li_41, li_42, li_43, li_44, li_45, li_46, li_47, li_48, li_49, li_50, li_51, li_52, li_53, li_54, li_55, li_56, li_57, li_58, li_59, li_60, li_61, li_62, li_63, li_64, li_65, li_66, li_67, li_68, li_69, li_70, li_71, li_72, li_73, li_74, li_75, li_76, li_77, li_78, li_79, li_80, li_81, li_82, li_83, li_84, li_85, li_86, li_87, li_88, li_89, li_90, li_91, li_92, li_93, li_94, li_95, li_96, li_97, li_98, li_99, li_100, li_101, li_102, li_103, li_104, li_105, li_106, li_107, li_108, li_109, li_110, li_111, li_112, li_113, li_114, li_115, li_116, li_117, li_118, li_119, li_120, li_121, li_122, li_123, li_124, li_125, li_126, li_127, li_128, li_160, li_219, li_220, li_248, li_249, li_250, li_251, li_255, li_999, li_1000, li_1023, li_1024, li_10240, li_999999, li_1048576, li_1048575, nI_add, nI_mul, zi_div, zi_eq, zi_le, zi_lt, zi_in, zi_c, zi_sub, zi_ofN, zi_m1e, zi_m1e', zi_m1lt, zi_m1le, zi_ltm1, zi_lem1, zi_m1m1, jif_T, jif_F, jif_t, jif_f, zb_1, zb_0, zb_01, zb_ft, zn_01a, zn_01b, zi_tst, zi_pow, cond_true, jcI_some, jcV_some, jcJ_some, Nat.reduceAdd, Nat.reduceMul, Nat.reduceSub, reduceCtorEq, Bool.true_eq_false, Bool.false_eq_true, zb_t, zb_f, Nat.add_zero, Nat.zero_add, Nat.mul_zero, Nat.zero_mul, or_true, true_or, or_false, false_or, and_true, true_and, and_false, false_and, not_true_eq_false, not_false_eq_true, zl_and, zl_or, zl_dif, zl_shl, zl_srl, zl_i, zl_w, zl_cmp, zi_b, zi_and, zi_or, zi_sru, jo_some, jo_none, ll_0, ll_1, ll_1048575, ll_1118481, li_16384, li_1073741824, ↓reduceIte, hJ, hm]
  rw [e_Maker_addStep_30]
/-- one more step: the machine with it -/
theorem c_addStepU {I : Nat → Nat → Int32} {J : Nat → Nat → Int64} {n s m q l t : Nat} {F : Nat → Nat → Nat} (hU : mkU I J n s m F) (hq : q < n) (hl : l < 3) (ht : t < 1048576) : mkU I (ju J 20 q (lN (pk3 (jup (F q) l (F q l ||| t))))) n s m (jup F q (jup (F q) l (F q l ||| t))) ∧ jcall (d + 1) 29 [.ref 19, .int (nI q), .int (nI l), .int (nI t)] (jGs L g, I, J) = some (none, (jGs L g, I, ju J 20 q (lN (pk3 (jup (F q) l (F q l ||| t)))))) := by
  obtain ⟨u1, u2, u3, u4, u5, u6, u7, u8⟩ := hU
  refine ⟨⟨u1, u2, u3, u4, u5, u6, fun q' hq' => ?_, fun q' l' => ?_⟩, ?_⟩
  · by_cases he : q' = q
    · rw [he, zu_at, jup_s]
    · rw [zu_k he, jup_n he]; exact u7 q' hq'
  · by_cases he : q' = q
    · rw [he, jup_s]
      by_cases hl' : l' = l
      · rw [hl', jup_s]; exact Nat.or_lt_two_pow (n := 20) (u8 q l) ht
      · rw [jup_n hl']; exact u8 q l'
    · rw [jup_n he]; exact u8 q' l'
  · rw [c_addStep d L g (by omega) hl ht (u7 q hq), pk3_or hl]
theorem mkU_cg {I : Nat → Nat → Int32} {J : Nat → Nat → Int64} {n s m : Nat} {F F' : Nat → Nat → Nat} (hU : mkU I J n s m F) (h : ∀ q, q < n → ∀ l, l < 3 → F' q l = F q l) (hb : ∀ q l, F' q l < 1048576) : mkU I J n s m F' := by
  obtain ⟨u1, u2, u3, u4, u5, u6, u7, u8⟩ := hU
  exact ⟨u1, u2, u3, u4, u5, u6, fun q hq => by rw [u7 q hq, pk3_cg (f' := F' q) (f := F q) (fun l hl => h q hq l hl)], hb⟩
theorem c_signU {I : Nat → Nat → Int32} {J : Nat → Nat → Int64} {n s m E : Nat} {F : Nat → Nat → Nat} (hU : mkU I J n s m F) (hE : E < 1048576) : ∃ J', fj J J' ∧ mkD I J' n s m E (fun q => pk3 (F q)) ∧ jcall (d + 2) 40 [.ref 19, .int (nI E)] (jGs L g, I, J) = some (none, (jGs L g, I, J')) := by
  obtain ⟨u1, u2, u3, u4, u5, u6, u7, u8⟩ := hU
  obtain ⟨J', q1, q2, q3⟩ := c_sign d L g I (E := E) (stp := fun q => pk3 (F q)) J u1 u4 hE (fun q _ => pk3_lt (u8 q)) u7
  exact ⟨J', q1, ⟨u1, u2, u3, u4, u5, u6, fun q hq => ⟨by rw [q1 20 (by omega) (by omega) (by omega)]; exact u7 q hq, pk3_lt (u8 q)⟩, q2⟩, q3⟩
end CC
theorem nxM_cg {n key l : Nat} {F F' : Nat → Nat → Nat} (h : ∀ q, q < n → F' q l = F q l) : nxM n F' key l = nxM n F key l := kNr_cg n h
theorem m_sim {nxr nx : Nat → Nat → Nat} {enr en : Nat → Bool} {P : Nat → Prop} {φ : Nat → Nat} (hs : ∀ x l, P x → l < 3 → P (nxr x l) ∧ nx (φ x) l = φ (nxr x l)) (he : ∀ x, P x → en (φ x) = enr x) : ∀ (w : List Nat) (x : Nat), P x → kW w → kG nx en (φ x) w = kG nxr enr x w
  | [], x, h, _ => he x h
  | l :: w, x, h, hw => by
    have hl : l < 3 := hw l List.mem_cons_self
    obtain ⟨h1, h2⟩ := hs x l h hl
    show kG nx en (nx (φ x) l) w = kG nxr enr (nxr x l) w
    rw [h2]
    exact m_sim hs he w _ h1 (fun x hx => hw x (List.mem_cons_of_mem _ hx))
/-- a machine that goes as keys go -/
def mSim (n s m E : Nat) (F : Nat → Nat → Nat) (nxr : Nat → Nat → Nat) (enr : Nat → Bool) (x0 : Nat) (P : Nat → Prop) (φ : Nat → Nat) : Prop := P x0 ∧ (∀ x l, P x → l < 3 → P (nxr x l) ∧ nxM n F (φ x) l = φ (nxr x l)) ∧ (∀ x, P x → x < 10240 ∧ φ x < 1048576) ∧ (∀ x, P x → enM n s m F E (φ x) = enr x) ∧ kSp n s m F
section CC
variable (d L : Nat)
theorem c_finU {g : jG} {I : Nat → Nat → Int32} {J : Nat → Nat → Int64} {PC PQ n s m E x0 out : Nat} {F : Nat → Nat → Nat} {nxr : Nat → Nat → Nat} {enr : Nat → Bool} {P : Nat → Prop} {φ : Nat → Nat} (hI : mkI L g I PC PQ) (hD : mkD I J n s m E (fun q => pk3 (F q))) (hb : ∀ q l, F q l < 1048576) (hS : mSim n s m E F nxr enr x0 P φ) (ho : gK L g out = 2) (hoC : out ≤ g.2.2.2.1) :
    ∃ g' I' J', mkI L g' I' PC PQ ∧ fX L g g' I I' J J' out ∧ ((∃ A, kMk (kG nxr enr x0) = some A ∧ cR L g' I' J' out A ∧ jcall (d + 2) 42 [.ref 19, .int (nI (φ x0)), .ref out] (jGs L g, I, J) = some (some (.int (nI 1)), (jGs L g', I', J'))) ∨ (kMk (kG nxr enr x0) = none ∧ I' out = I out ∧ J' out = J out ∧ jcall (d + 2) 42 [.ref 19, .int (nI (φ x0)), .ref out] (jGs L g, I, J) = some (some (.int (nI 0)), (jGs L g', I', J')))) := by
  obtain ⟨s1, s2, s3, s4, s5⟩ := hS
  have hT : ∀ q l, l < 3 → (fun q l => sT (pk3 (F q)) l) q l = F q l := fun q l hl => sT_pk3 (hb q) hl
  have hx : ∀ key l, l < 3 → nxM n (fun q l => sT (pk3 (F q)) l) key l = nxM n F key l := fun key l hl => nxM_cg (fun q _ => hT q l hl)
  have hcd : ∀ k, ∃ x, (∃ x, P x ∧ k = φ x) → P x ∧ k = φ x := fun k => by
    by_cases h : ∃ x, P x ∧ k = φ x
    · obtain ⟨x, hx⟩ := h
      exact ⟨x, fun _ => hx⟩
    · exact ⟨0, fun hh => absurd hh h⟩
  obtain ⟨cd, hcd⟩ := Classical.axiomOfChoice hcd
  have hV : vOk n (fun q l => sT (pk3 (F q)) l) (fun k => ∃ x, P x ∧ k = φ x) cd (φ x0) := by
    refine ⟨⟨x0, s1, rfl⟩, fun k l hk hl => ?_, fun k hk => ?_, fun k k' hk hk' h => ?_⟩
    · obtain ⟨x, x1, x2⟩ := hk
      obtain ⟨y1, y2⟩ := s2 x l x1 hl
      exact ⟨nxr x l, y1, by rw [hx k l hl, x2, y2]⟩
    · have h1 := hcd k hk
      have h2 := s3 _ h1.1
      exact ⟨by rw [h1.2]; exact h2.2, h2.1⟩
    · rw [(hcd k hk).2, (hcd k' hk').2, h]
  have hsp : kSp n s m (fun q l => sT (pk3 (F q)) l) := by
    rcases s5 with h | h
    · exact Or.inl h
    · exact Or.inr (fun q hq l hl q' hq' ht => h q hq l hl q' hq' (by rw [← hT q l hl]; exact ht))
  have hG : kMk (kG (nxM n (fun q l => sT (pk3 (F q)) l)) (enM n s m (fun q l => sT (pk3 (F q)) l) E) (φ x0)) = kMk (kG nxr enr x0) := kMk_cg (fun w hw => m_sim (P := P) (fun x l hx' hl => ⟨(s2 x l hx' hl).1, by rw [hx _ l hl]; exact (s2 x l hx' hl).2⟩) (fun x hx' => s4 x hx') w x0 s1 hw)
  have h := c_finish d L (out := out) hI hD hV hsp ho hoC
  rw [hG] at h
  exact h
end CC

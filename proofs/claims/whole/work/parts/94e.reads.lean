/-! THE REFERENCE: a pattern is read -/
set_option maxRecDepth 100000
/-- the next place that is no space -/
def skp (c : Nat → Nat) : Nat → Nat → Nat
  | 0, i => i
  | f + 1, i => if c i = 32 then skp c f (i + 1) else i
theorem skp_le (c : Nat → Nat) : ∀ f i, i ≤ skp c f i ∧ skp c f i ≤ i + f
  | 0, i => ⟨Nat.le_refl _, Nat.le_refl _⟩
  | f + 1, i => by
    show i ≤ (if c i = 32 then skp c f (i + 1) else i) ∧ (if c i = 32 then skp c f (i + 1) else i) ≤ i + (f + 1)
    have := skp_le c f (i + 1)
    split <;> omega
theorem skp_ne (c : Nat → Nat) : ∀ f i, skp c f i < i + f → c (skp c f i) ≠ 32
  | 0, i, h => absurd h (Nat.lt_irrefl _)
  | f + 1, i, h => by
    show c (if c i = 32 then skp c f (i + 1) else i) ≠ 32
    have h' : (if c i = 32 then skp c f (i + 1) else i) < i + (f + 1) := h
    by_cases h32 : c i = 32
    · rw [if_pos h32] at h' ⊢
      exact skp_ne c f (i + 1) (by omega)
    · rw [if_neg h32]; exact h32
theorem rn_skp (c : Nat → Nat) (S : pS) : ∀ f i, rn c f i S = rn c (i + f - skp c f i) (skp c f i) S
  | 0, i => by rw [show skp c 0 i = i from rfl, Nat.add_zero, Nat.sub_self]
  | f + 1, i => by
    by_cases h32 : c i = 32
    · rw [show skp c (f + 1) i = skp c f (i + 1) by show (if c i = 32 then _ else _) = _; rw [if_pos h32], show rn c (f + 1) i S = rn c f (i + 1) S by show (if c i = 32 then _ else _) = _; rw [if_pos h32], rn_skp c S f (i + 1), show i + 1 + f = i + (f + 1) by omega]
    · rw [show skp c (f + 1) i = i by show (if c i = 32 then _ else _) = _; rw [if_neg h32], Nat.add_sub_cancel_left]
/-- where a factor waits and no * or ? follows it is settled -/
theorem rn_stl (c : Nat → Nat) (S : pS) : ∀ f i, (skp c f i < i + f → c (skp c f i) ≠ 42 ∧ c (skp c f i) ≠ 63) → rn c f i S = rn c f i (stl S)
  | 0, i, _ => by
    show (if S.1 = 0 then (some (stl S), 0) else (none, i)) = (if (stl S).1 = 0 then (some (stl (stl S)), 0) else (none, i))
    rw [stl_stl, stl_d]
  | f + 1, i, h => by
    by_cases h32 : c i = 32
    · have hs : skp c (f + 1) i = skp c f (i + 1) := by show (if c i = 32 then _ else _) = _; rw [if_pos h32]
      rw [show rn c (f + 1) i S = rn c f (i + 1) S by show (if c i = 32 then _ else _) = _; rw [if_pos h32], show rn c (f + 1) i (stl S) = rn c f (i + 1) (stl S) by show (if c i = 32 then _ else _) = _; rw [if_pos h32]]
      exact rn_stl c S f (i + 1) (fun hlt => by rw [← hs]; exact h (by omega))
    · have hs : skp c (f + 1) i = i := by show (if c i = 32 then _ else _) = _; rw [if_neg h32]
      have hc := h (by omega)
      rw [hs] at hc
      have ht : tk (stl S) (c i) = tk S (c i) := by unfold tk; rw [if_neg (by omega), if_neg (by omega), stl_stl]
      show (if c i = 32 then _ else match tk S (c i) with | none => (none, i) | some S' => rn c f (i + 1) S') = (if c i = 32 then _ else match tk (stl S) (c i) with | none => (none, i) | some S' => rn c f (i + 1) S')
      rw [if_neg h32, if_neg h32, ht]
theorem rn_step {c : Nat → Nat} {S : pS} {N i j : Nat} (hj : j = skp c (N - i) i) (hi : i ≤ N) (hlt : j < N) : rn c (N - i) i S = match tk S (c j) with
    | none => (none, j)
    | some S' => rn c (N - (j + 1)) (j + 1) S' := by
  have h1 := skp_le c (N - i) i
  have h2 := skp_ne c (N - i) i (by omega)
  rw [rn_skp, ← hj, show i + (N - i) - j = (N - (j + 1)) + 1 by omega]
  rw [← hj] at h2
  show (if c j = 32 then _ else _) = _
  rw [if_neg h2]
  rfl
theorem rn_end {c : Nat → Nat} {S : pS} {N i : Nat} (hj : N = skp c (N - i) i) (hi : i ≤ N) : rn c (N - i) i S = if S.1 = 0 then (some (stl S), 0) else (none, N) := by
  rw [rn_skp, ← hj, show i + (N - i) - N = 0 by omega]
  rfl
def mPx (a j : Nat) : Prop := a = 122 ∨ a = 123 ∨ (161 ≤ a ∧ a ≤ 166) ∨ (a = 117 ∧ (j = 13 ∨ j = 14 ∨ j = 15 ∨ j = 53 ∨ j = 54 ∨ j = 85))
def mPf (I I' : Nat → Nat → Int32) : Prop := ∀ a j, ¬ mPx a j → I' a j = I a j
theorem mPf_t {I I1 I2 : Nat → Nat → Int32} (h : mPf I I1) (h' : mPf I1 I2) : mPf I I2 := fun a j hx => (h' a j hx).trans (h a j hx)
def r6 (I : Nat → Nat → Int32) (k : Nat) (x y : pT) : Prop := I 161 k = bI x.1 ∧ I 162 k = nI x.2.1 ∧ I 163 k = nI x.2.2 ∧ I 164 k = bI y.1 ∧ I 165 k = nI y.2.1 ∧ I 166 k = nI y.2.2
def e6 (I I' : Nat → Nat → Int32) (k : Nat) : Prop := ∀ a j, ¬ (161 ≤ a ∧ a ≤ 166 ∧ j = k) → I' a j = I a j
/-- the reference holds S -/
def rPS (S : pS) (I : Nat → Nat → Int32) : Prop := (∀ k, k ≤ S.1 → r6 I k (S.2.2.1 k) (S.2.2.2.1 k)) ∧ I 117 85 = nI S.2.2.2.2.1 ∧ (∀ p, p < 10 → I 122 p = nI (S.2.2.2.2.2.1 p)) ∧ ∀ l, l < 3 → I 123 l = nI (S.2.2.2.2.2.2 l)
def sR (c : Nat → Nat) (N i : Nat) (I : Nat → Nat → Int32) : Prop := I 117 52 = nI N ∧ (∀ j, j < N → I 148 j = nI (c j)) ∧ I 117 53 = nI i
theorem r6_cg {I I' : Nat → Nat → Int32} {k : Nat} {x y : pT} (h : r6 I k x y) (hI : ∀ a, 161 ≤ a → a ≤ 166 → I' a k = I a k) : r6 I' k x y := by
  obtain ⟨h1, h2, h3, h4, h5, h6⟩ := h
  exact ⟨by rw [hI 161 (by omega) (by omega)]; exact h1, by rw [hI 162 (by omega) (by omega)]; exact h2, by rw [hI 163 (by omega) (by omega)]; exact h3, by rw [hI 164 (by omega) (by omega)]; exact h4, by rw [hI 165 (by omega) (by omega)]; exact h5, by rw [hI 166 (by omega) (by omega)]; exact h6⟩
theorem sR_cg {c : Nat → Nat} {N i : Nat} {I I' : Nat → Nat → Int32} (h : sR c N i I) (h1 : I' 117 52 = I 117 52) (h2 : ∀ j, I' 148 j = I 148 j) (h3 : I' 117 53 = I 117 53) : sR c N i I' := ⟨h1.trans h.1, fun j hj => (h2 j).trans (h.2.1 j hj), h3.trans h.2.2⟩
def hV (c : Nat → Nat) (N j : Nat) : Int32 := if j < N then nI (c j) else -1
section MM
variable (d L : Nat) (g : jG) {J : Nat → Nat → Int64}
theorem r_here {c : Nat → Nat} {N : Nat} (hN : N ≤ 120) (hc : ∀ i, i < N → c i < 128) : ∀ f i (I : Nat → Nat → Int32), i + f = N → sR c N i I → ∃ I', (∀ a k, ¬ (a = 117 ∧ k = 53) → I' a k = I a k) ∧ sR c N (skp c f i) I' ∧ jval d 197 0 [.ref 117] [] (jGs L g, I, J) = some (some (.int (hV c N (skp c f i))), (jGs L g, I', J)) := by
  intro f
  induction f with
  | zero =>
    intro i I hi h
    refine ⟨I, fun _ _ _ => rfl, h, ?_⟩
    rw [e_TextValuesModel_here_0, h.1, h.2.2, jif_t (nI_le (by omega) (by omega)), e_TextValuesModel_here_38, h.1, h.2.2, jif_t (nI_le (by omega) (by omega)), e_TextValuesModel_here_62, show skp c 0 i = i from rfl, hV, if_neg (by omega)]
  | succ f ih =>
    intro i I hi h
    have hci := hc i (by omega)
    by_cases h32 : c i = 32
    · rw [show skp c (f + 1) i = skp c f (i + 1) by show (if c i = 32 then _ else _) = _; rw [if_pos h32]]
      obtain ⟨I', q1, q2, q3⟩ := ih (i + 1) (ju I 117 53 (nI (i + 1))) (by omega) ⟨by rw [zu_k (by omega)]; exact h.1, fun j hj => by rw [zu_a (by omega)]; exact h.2.1 j hj, zu_at _ _ _ _⟩
      refine ⟨I', fun a k hk => by rw [q1 a k hk, ju_ne (by omega)], q2, ?_⟩
      rw [e_TextValuesModel_here_0, h.1, h.2.2, jif_f (nI_ge (by omega) (by omega)), jin_nI (by omega) (by omega), nI_c (by omega), cond_true, h.2.1 i (by omega), jif_t (by rw [h32]; rfl), nI_1]
      exact q3
    · rw [show skp c (f + 1) i = i by show (if c i = 32 then _ else _) = _; rw [if_neg h32]]
      refine ⟨I, fun _ _ _ => rfl, h, ?_⟩
      rw [e_TextValuesModel_here_0, h.1, h.2.2, jif_f (nI_ge (by omega) (by omega)), jin_nI (by omega) (by omega), nI_c (by omega), cond_true, h.2.1 i (by omega), jif_f (show ¬ nI (c i) = (32 : Int32) from fun e => h32 ((nI_eq (b := 32) (by omega) (by omega)).mp e)), e_TextValuesModel_here_38, h.1, h.2.2, jif_f (nI_ge (by omega) (by omega)), jin_nI (by omega) (by omega), nI_c (by omega), cond_true, h.2.1 i (by omega), e_TextValuesModel_here_62, hV, if_pos (by omega)]
theorem r_opensPattern {k : Nat} {I : Nat → Nat → Int32} (hk : k < 121) : ∃ I', e6 I I' k ∧ r6 I' k tNo tEm ∧ jcall (d + 2) 244 [.ref 117, .int (nI k)] (jGs L g, I, J) = some (none, (jGs L g, I', J)) := by
  refine ⟨ju (ju (ju (ju (ju (ju I 161 k (nI 0)) 162 k (nI 0)) 163 k (nI 0)) 164 k (nI 1)) 165 k (nI 0)) 166 k (nI 0), fun a j h => ?_, ⟨?_, ?_, ?_, ?_, ?_, ?_⟩, ?_⟩
  · rw [ju_ne (by omega), ju_ne (by omega), ju_ne (by omega), ju_ne (by omega), ju_ne (by omega), ju_ne (by omega)]
  · rw [zu_a (by omega), zu_a (by omega), zu_a (by omega), zu_a (by omega), zu_a (by omega), zu_at]; rfl
  · rw [zu_a (by omega), zu_a (by omega), zu_a (by omega), zu_a (by omega), zu_at]; rfl
  · rw [zu_a (by omega), zu_a (by omega), zu_a (by omega), zu_at]; rfl
  · rw [zu_a (by omega), zu_a (by omega), zu_at]; rfl
  · rw [zu_a (by omega), zu_at]; rfl
  · rw [zu_at]; rfl
  · rw [c_TextValuesModel_opensPattern, e_TextValuesModel_opensPattern_0]
    simp (disch := omega) only [li_0, li_1, li_2, li_3, li_4, li_5, li_6, li_7, li_8, li_9, li_10, li_11, li_12, li_13, li_14, li_15, li_16, li_17, li_18, li_19, li_20, li_21, li_22, li_23, li_24, li_25, li_26, li_27, li_28, li_29, li_30, li_31, li_32, li_33, li_34, li_35, li_36, li_37, li_38, li_39, li_40, li_41, li_42, li_43, li_44, li_45, li_46, li_47, li_48, li_49, li_50, li_51, li_52, li_53, li_54, li_55, li_56, li_57, li_58, li_59, li_60, li_61, li_62, li_63, li_64, li_65, li_66, li_67, li_68, li_69, li_70, li_71, li_72, li_73, li_74, li_75, li_76, li_77, li_78, li_79, li_80, li_81, li_82, li_83, li_84, li_85, li_86, li_87, li_88, li_89, li_90, li_91, li_92, li_93, li_94, li_95, li_96, li_97, li_98, li_99, li_100, li_101, li_102, li_103, li_104, li_105, li_106, li_107, li_108, li_109, li_110, li_111, li_112, li_113, li_114, li_115, li_116, li_117, li_118, li_119, li_120, li_121, li_122, li_123, li_124, li_125, li_126, li_127, li_128, li_160, li_219, li_220, li_248, li_249, li_250, li_251, li_255, li_999, li_1000, li_1023, li_1024, li_10240, li_999999, li_1048576, li_1048575, nI_add, nI_mul, zi_div, zi_eq, zi_le, zi_lt, zi_in, zi_c, zi_sub, zi_ofN, zi_m1e, zi_m1e', zi_m1lt, zi_m1le, zi_ltm1, zi_lem1, zi_m1m1, jif_T, jif_F, jif_t, jif_f, zb_1, zb_0, zb_01, zb_ft, zn_01a, zn_01b, zi_tst, zi_pow, cond_true, jcI_some, jcV_some, jcJ_some, Nat.reduceAdd, Nat.reduceMul, Nat.reduceSub, reduceCtorEq, Bool.true_eq_false, Bool.false_eq_true, zb_t, zb_f, Nat.add_zero, Nat.zero_add, Nat.mul_zero, Nat.zero_mul, or_true, true_or, or_false, false_or, and_true, true_and, and_false, false_and, not_true_eq_false, not_false_eq_true, c_TextValuesModel_opensRow, e_TextValuesModel_opensRow_0, e_TextValuesModel_opensPattern_26]
theorem bI_or (a b : Bool) : bI a ||| bI b = bI (a || b) := by cases a <;> cases b <;> decide
theorem r_closesRow {k : Nat} {x y : pT} {I : Nat → Nat → Int32} (hk : k < 121) (h : r6 I k x y) : ∃ I', e6 I I' k ∧ r6 I' k (orT x y) tEm ∧ jcall (d + 2) 245 [.ref 117, .int (nI k)] (jGs L g, I, J) = some (none, (jGs L g, I', J)) := by
  obtain ⟨h1, h2, h3, h4, h5, h6⟩ := h
  refine ⟨ju (ju (ju (ju (ju (ju I 161 k (bI (x.1 || y.1))) 162 k (nI (x.2.1 ||| y.2.1))) 163 k (nI (x.2.2 ||| y.2.2))) 164 k (nI 1)) 165 k (nI 0)) 166 k (nI 0), fun a j h => ?_, ⟨?_, ?_, ?_, ?_, ?_, ?_⟩, ?_⟩
  · rw [ju_ne (by omega), ju_ne (by omega), ju_ne (by omega), ju_ne (by omega), ju_ne (by omega), ju_ne (by omega)]
  · rw [zu_a (by omega), zu_a (by omega), zu_a (by omega), zu_a (by omega), zu_a (by omega), zu_at]; rfl
  · rw [zu_a (by omega), zu_a (by omega), zu_a (by omega), zu_a (by omega), zu_at]; rfl
  · rw [zu_a (by omega), zu_a (by omega), zu_a (by omega), zu_at]; rfl
  · rw [zu_a (by omega), zu_a (by omega), zu_at]; rfl
  · rw [zu_a (by omega), zu_at]; rfl
  · rw [zu_at]; rfl
  · rw [c_TextValuesModel_closesRow, e_TextValuesModel_closesRow_0]
    simp (disch := omega) only [li_0, li_1, li_2, li_3, li_4, li_5, li_6, li_7, li_8, li_9, li_10, li_11, li_12, li_13, li_14, li_15, li_16, li_17, li_18, li_19, li_20, li_21, li_22, li_23, li_24, li_25, li_26, li_27, li_28, li_29, li_30, li_31, li_32, li_33, li_34, li_35, li_36, li_37, li_38, li_39, li_40, li_41, li_42, li_43, li_44, li_45, li_46, li_47, li_48, li_49, li_50, li_51, li_52, li_53, li_54, li_55, li_56, li_57, li_58, li_59, li_60, li_61, li_62, li_63, li_64, li_65, li_66, li_67, li_68, li_69, li_70, li_71, li_72, li_73, li_74, li_75, li_76, li_77, li_78, li_79, li_80, li_81, li_82, li_83, li_84, li_85, li_86, li_87, li_88, li_89, li_90, li_91, li_92, li_93, li_94, li_95, li_96, li_97, li_98, li_99, li_100, li_101, li_102, li_103, li_104, li_105, li_106, li_107, li_108, li_109, li_110, li_111, li_112, li_113, li_114, li_115, li_116, li_117, li_118, li_119, li_120, li_121, li_122, li_123, li_124, li_125, li_126, li_127, li_128, li_160, li_219, li_220, li_248, li_249, li_250, li_251, li_255, li_999, li_1000, li_1023, li_1024, li_10240, li_999999, li_1048576, li_1048575, nI_add, nI_mul, zi_div, zi_eq, zi_le, zi_lt, zi_in, zi_c, zi_sub, zi_ofN, zi_m1e, zi_m1e', zi_m1lt, zi_m1le, zi_ltm1, zi_lem1, zi_m1m1, jif_T, jif_F, jif_t, jif_f, zb_1, zb_0, zb_01, zb_ft, zn_01a, zn_01b, zi_tst, zi_pow, cond_true, jcI_some, jcV_some, jcJ_some, Nat.reduceAdd, Nat.reduceMul, Nat.reduceSub, reduceCtorEq, Bool.true_eq_false, Bool.false_eq_true, zb_t, zb_f, Nat.add_zero, Nat.zero_add, Nat.mul_zero, Nat.zero_mul, or_true, true_or, or_false, false_or, and_true, true_and, and_false, false_and, not_true_eq_false, not_false_eq_true, c_TextValuesModel_opensRow, e_TextValuesModel_opensRow_0, e_TextValuesModel_closesRow_50, h1, h2, h3, h4, h5, h6, bI_or, nx_or]
theorem r_fls_2 {la fi : Nat} {bh : Nat → Nat} : ∀ m p (I : Nat → Nat → Int32), p + m = 10 → (∀ x, x < p → I 122 x = nI (flw bh la fi x)) → (∀ x, p ≤ x → x < 10 → I 122 x = nI (bh x)) → ∃ I', (∀ y, y ≠ 122 → I' y = I y) ∧ (∀ x, x < 10 → I' 122 x = nI (flw bh la fi x)) ∧ jval d 246 2 [.ref 117, .int (nI la), .int (nI fi), .int (nI p)] [] (jGs L g, I, J) = some (none, (jGs L g, I', J)) := by
  intro m
  induction m with
  | zero =>
    intro p I hp h1 h2
    have : p = 10 := by omega
    subst this
    refine ⟨I, fun _ _ => rfl, h1, ?_⟩
    rw [e_TextValuesModel_follows_2, jif_t (by decide)]
  | succ m ih =>
    intro p I hp h1 h2
    obtain ⟨I', q1, q2, q3⟩ := ih (p + 1) (ju I 122 p (nI (flw bh la fi p))) (by omega) (fun x hx => by
        by_cases hxp : x = p
        · rw [hxp, zu_at]
        · rw [zu_k hxp]; exact h1 x (by omega)) (fun x hx hx2 => by rw [zu_k (by omega)]; exact h2 x (by omega) hx2)
    refine ⟨I', fun y hy => (q1 y hy).trans (ju_n hy), q2, ?_⟩
    have hb := nI_tst (m := la) (r := p) (by omega)
    rw [← q3, e_TextValuesModel_follows_2, jif_f (show ¬ (10 : Int32) ≤ nI p from nI_ge (a := p) (b := 10) (by omega) (by omega)), jin_nI (by omega) (by omega), nI_c (by omega), cond_true, hb, h2 p (Nat.le_refl _) (by omega), flw]
    cases la.testBit p
    · rw [jif_f (by decide), e_TextValuesModel_follows_29, jin_nI (by omega) (by omega), nI_c (by omega), cond_true, show (0 : Int32) = nI 0 from rfl, nx_or, Nat.or_zero, nI_1, if_neg (by decide)]
    · rw [jif_t (by decide), e_TextValuesModel_follows_29, jin_nI (by omega) (by omega), nI_c (by omega), cond_true, nx_or, nI_1, if_pos rfl]
theorem r_follows {la fi : Nat} {bh : Nat → Nat} {I : Nat → Nat → Int32} (h : ∀ x, x < 10 → I 122 x = nI (bh x)) : ∃ I', (∀ y, y ≠ 122 → I' y = I y) ∧ (∀ x, x < 10 → I' 122 x = nI (flw bh la fi x)) ∧ jcall (d + 1) 246 [.ref 117, .int (nI la), .int (nI fi)] (jGs L g, I, J) = some (none, (jGs L g, I', J)) := by
  obtain ⟨I', q1, q2, q3⟩ := r_fls_2 d L g (J := J) (la := la) (fi := fi) 10 0 I (by omega) (fun x hx => absurd hx (by omega)) (fun x _ hx => h x hx)
  refine ⟨I', q1, q2, ?_⟩
  rw [c_TextValuesModel_follows, e_TextValuesModel_follows_0]
  exact q3
theorem r_lay_69 {D : Nat} {x y f : pT} {bh : Nat → Nat} {I : Nat → Nat → Int32} (hD : D < 121) (h : r6 I D x y) (hb : ∀ x, x < 10 → I 122 x = nI (bh x)) : ∃ I', (∀ a j, a ≠ 122 → ¬ (161 ≤ a ∧ a ≤ 166 ∧ j = D) → I' a j = I a j) ∧ r6 I' D x (lay y f) ∧ (∀ p, p < 10 → I' 122 p = nI (flw bh y.2.2 f.2.1 p)) ∧ jval (d + 1) 247 69 [.ref 117, .int (nI D), jjunk, .int (nI f.2.1), .int (nI f.2.2), jjunk, .int (bI f.1)] [] (jGs L g, I, J) = some (none, (jGs L g, I', J)) := by
  obtain ⟨I1, q1, q2, q3⟩ := r_follows d L g (J := J) (la := y.2.2) (fi := f.2.1) hb
  obtain ⟨h1, h2, h3, h4, h5, h6⟩ := r6_cg h (I' := I1) (fun a a1 a2 => by rw [q1 a (by omega)])
  have h60 : I 166 D = nI y.2.2 := h.2.2.2.2.2
  refine ⟨ju (ju (ju I1 165 D (nI (y.2.1 ||| (if y.1 then f.2.1 else 0)))) 166 D (nI (f.2.2 ||| (if f.1 then y.2.2 else 0)))) 164 D (bI (y.1 && f.1)), fun a j a1 a2 => ?_, ⟨?_, ?_, ?_, ?_, ?_, ?_⟩, fun p hp => ?_, ?_⟩
  · rw [ju_ne (by omega), ju_ne (by omega), ju_ne (by omega), q1 a a1]
  · rw [zu_a (by omega), zu_a (by omega), zu_a (by omega)]; exact h1
  · rw [zu_a (by omega), zu_a (by omega), zu_a (by omega)]; exact h2
  · rw [zu_a (by omega), zu_a (by omega), zu_a (by omega)]; exact h3
  · rw [zu_at]; rfl
  · rw [zu_a (by omega), zu_a (by omega), zu_at]; rfl
  · rw [zu_a (by omega), zu_at]; rfl
  · rw [zu_a (by omega), zu_a (by omega), zu_a (by omega)]; exact q2 p hp
  · rw [e_TextValuesModel_lays_69, jin_nI (by omega) (by omega), nI_c (by omega), cond_true, h60, q3, jcV_some, e_TextValuesModel_lays_80]
    cases hy : y.1 <;> cases hf : f.1 <;> simp (disch := omega) only [li_0, li_1, li_2, li_3, li_4, li_5, li_6, li_7, li_8, li_9, li_10, li_11, li_12, li_13, li_14, li_15, li_16, li_17, li_18, li_19, li_20, li_21, li_22, li_23, li_24, li_25, li_26, li_27, li_28, li_29, li_30, li_31, li_32, li_33, li_34, li_35, li_36, li_37, li_38, li_39, li_40, li_41, li_42, li_43, li_44, li_45, li_46, li_47, li_48, li_49, li_50, li_51, li_52, li_53, li_54, li_55, li_56, li_57, li_58, li_59, li_60, li_61, li_62, li_63, li_64, li_65, li_66, li_67, li_68, li_69, li_70, li_71, li_72, li_73, li_74, li_75, li_76, li_77, li_78, li_79, li_80, li_81, li_82, li_83, li_84, li_85, li_86, li_87, li_88, li_89, li_90, li_91, li_92, li_93, li_94, li_95, li_96, li_97, li_98, li_99, li_100, li_101, li_102, li_103, li_104, li_105, li_106, li_107, li_108, li_109, li_110, li_111, li_112, li_113, li_114, li_115, li_116, li_117, li_118, li_119, li_120, li_121, li_122, li_123, li_124, li_125, li_126, li_127, li_128, li_160, li_219, li_220, li_248, li_249, li_250, li_251, li_255, li_999, li_1000, li_1023, li_1024, li_10240, li_999999, li_1048576, li_1048575, nI_add, nI_mul, zi_div, zi_eq, zi_le, zi_lt, zi_in, zi_c, zi_sub, zi_ofN, zi_m1e, zi_m1e', zi_m1lt, zi_m1le, zi_ltm1, zi_lem1, zi_m1m1, jif_T, jif_F, jif_t, jif_f, zb_1, zb_0, zb_01, zb_ft, zn_01a, zn_01b, zi_tst, zi_pow, cond_true, jcI_some, jcV_some, jcJ_some, Nat.reduceAdd, Nat.reduceMul, Nat.reduceSub, reduceCtorEq, Bool.true_eq_false, Bool.false_eq_true, zb_t, zb_f, Nat.add_zero, Nat.zero_add, Nat.mul_zero, Nat.zero_mul, or_true, true_or, or_false, false_or, and_true, true_and, and_false, false_and, not_true_eq_false, not_false_eq_true, hy, hf, ↓reduceIte, e_TextValuesModel_lays_102, e_TextValuesModel_lays_127, e_TextValuesModel_lays_154, e_TextValuesModel_lays_155, h4, h5, h6, nx_or, zu_a, zu_at, Nat.or_zero, Bool.and_true, Bool.and_false, Bool.false_and, Bool.true_and]
end MM

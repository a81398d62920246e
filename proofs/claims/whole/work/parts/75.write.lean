/-! THE CLASS: write, finish -/
set_option maxRecDepth 100000
theorem np_tr {f : Nat → Nat} {m : Nat} : ∀ k, (∀ j, m ≤ j → f j = 0) → np f (m + k) = np f m
  | 0, _ => rfl
  | k + 1, h => by
    show np f (m + k) + f (m + k) * 16 ^ (m + k) = np f m
    rw [np_tr k h, h _ (by omega), Nat.zero_mul, Nat.add_zero]
/-- the rows of the first w states, from s on -/
def flW (Tq : Nat → Nat) (w s : Nat) (j : Nat) : Nat := if s + j / 3 < w then Tq (3 * (s + j / 3) + j % 3) else 0
theorem flW_lt {Tq : Nat → Nat} {w s : Nat} (h : ∀ q, q < 3 * w → Tq q < 16) (j : Nat) : flW Tq w s j < 16 := by
  unfold flW
  split
  · exact h _ (by omega)
  · omega
theorem flW_or {Tq : Nat → Nat} {w s t : Nat} (hs : s ≤ w) (hw : w < s + 5) (h : ∀ q, q < 3 * (w + 1) → Tq q < 16) (ht : t = ((Tq (3 * w) ||| Tq (3 * w + 1) * 2 ^ 4) ||| Tq (3 * w + 2) * 2 ^ 8)) : np (flW Tq w s) 15 ||| t * 2 ^ (12 * (w - s)) = np (flW Tq (w + 1) s) 15 := by
  have h0 := h (3 * w) (by omega)
  have h1 := h (3 * w + 1) (by omega)
  have h2 := h (3 * w + 2) (by omega)
  have et : t = Tq (3 * w) + 16 * Tq (3 * w + 1) + 256 * Tq (3 * w + 2) := by
    rw [ht, or_add (k := 4) (by omega), or_add (k := 8) (by omega)]
  have z1 : ∀ j, 3 * (w - s) ≤ j → flW Tq w s j = 0 := fun j hj => by
    unfold flW
    rw [if_neg (by omega)]
  have z2 : ∀ j, 3 * (w - s) + 3 ≤ j → flW Tq (w + 1) s j = 0 := fun j hj => by
    unfold flW
    rw [if_neg (by omega)]
  have e1 : np (flW Tq w s) 15 = np (flW Tq w s) (3 * (w - s)) := by
    have := np_tr (f := flW Tq w s) (m := 3 * (w - s)) (15 - 3 * (w - s)) z1
    rw [show 3 * (w - s) + (15 - 3 * (w - s)) = 15 by omega] at this
    exact this
  have e2 : np (flW Tq (w + 1) s) 15 = np (flW Tq (w + 1) s) (3 * (w - s) + 3) := by
    have := np_tr (f := flW Tq (w + 1) s) (m := 3 * (w - s) + 3) (15 - (3 * (w - s) + 3)) z2
    rw [show 3 * (w - s) + 3 + (15 - (3 * (w - s) + 3)) = 15 by omega] at this
    exact this
  have e3 : np (flW Tq (w + 1) s) (3 * (w - s)) = np (flW Tq w s) (3 * (w - s)) := np_cg _ (fun j hj => by
    unfold flW
    rw [if_pos (by omega), if_pos (by omega)])
  have f0 : flW Tq (w + 1) s (3 * (w - s)) = Tq (3 * w) := by
    unfold flW
    rw [if_pos (by omega), show 3 * (s + 3 * (w - s) / 3) + 3 * (w - s) % 3 = 3 * w by omega]
  have f1 : flW Tq (w + 1) s (3 * (w - s) + 1) = Tq (3 * w + 1) := by
    unfold flW
    rw [if_pos (by omega), show 3 * (s + (3 * (w - s) + 1) / 3) + (3 * (w - s) + 1) % 3 = 3 * w + 1 by omega]
  have f2 : flW Tq (w + 1) s (3 * (w - s) + 2) = Tq (3 * w + 2) := by
    unfold flW
    rw [if_pos (by omega), show 3 * (s + (3 * (w - s) + 2) / 3) + (3 * (w - s) + 2) % 3 = 3 * w + 2 by omega]
  have hlt := np_lt (flW_lt (s := s) (fun q hq => h q (by omega) : ∀ q, q < 3 * w → Tq q < 16)) (3 * (w - s))
  have hpow : 16 ^ (3 * (w - s)) = 2 ^ (12 * (w - s)) := by rw [show (16 : Nat) = 2 ^ 4 from rfl, ← Nat.pow_mul]; congr 1; omega
  rw [hpow] at hlt
  rw [e1, e2, or_add hlt, et]
  show _ = ((np (flW Tq (w + 1) s) (3 * (w - s)) + flW Tq (w + 1) s (3 * (w - s)) * 16 ^ (3 * (w - s))) + flW Tq (w + 1) s (3 * (w - s) + 1) * 16 ^ (3 * (w - s) + 1)) + flW Tq (w + 1) s (3 * (w - s) + 2) * 16 ^ (3 * (w - s) + 2)
  have p1 : 16 ^ (3 * (w - s) + 1) = 2 ^ (12 * (w - s)) * 16 := by rw [Nat.pow_succ, hpow]
  have p2 : 16 ^ (3 * (w - s) + 2) = 2 ^ (12 * (w - s)) * 256 := by rw [show 3 * (w - s) + 2 = 3 * (w - s) + 1 + 1 from rfl, Nat.pow_succ, p1, Nat.mul_assoc]
  rw [f0, f1, f2, e3, p1, p2, hpow]
  generalize 2 ^ (12 * (w - s)) = P
  generalize Tq (3 * w) = a
  generalize Tq (3 * w + 1) = b
  generalize Tq (3 * w + 2) = e
  have x1 : P * (16 * b) = 16 * (P * b) := Nat.mul_left_comm _ _ _
  have x2 : b * (P * 16) = 16 * (P * b) := by rw [Nat.mul_comm b, Nat.mul_comm P 16, Nat.mul_assoc]
  have x3 : P * (256 * e) = 256 * (P * e) := Nat.mul_left_comm _ _ _
  have x4 : e * (P * 256) = 256 * (P * e) := by rw [Nat.mul_comm e, Nat.mul_comm P 256, Nat.mul_assoc]
  have x5 : a * P = P * a := Nat.mul_comm _ _
  rw [Nat.mul_add, Nat.mul_add, x1, x2, x3, x4, x5]
  omega
section CC
variable (d L : Nat)
theorem c_write_14 {g : jG} {I : Nat → Nat → Int32} {J : Nat → Nat → Int64} {gr rr c N G out : Nat} {T ν mem : Nat → Nat} {en : Nat → Bool} (r1 : g.2.2.1 19 13 = some gr) (r2 : g.2.2.1 19 10 = some rr) (k4 : (jGs L g).1 gr = 14) (k2 : (jGs L g).1 rr = 15) (l4 : (jGs L g).2.1 gr = 2 ^ c) (l2 : (jGs L g).2.1 rr = 4 * 2 ^ c) (hc : c ≤ 14) (hN : N ≤ 2 ^ c) (h7 : I 19 7 = nI N) (h16 : I 19 16 = nI G) (hT : ∀ q, q < 3 * N → T q < N) (hrr : ∀ x, x < 3 * N → I rr (4 * (x / 3) + x % 3) = nI (T x)) (hre : ∀ i, i < N → I rr (4 * i + 3) = nI (if en i = true then 1 else 0)) (hgr : ∀ i, i < N → I gr i = nI (ν i)) (hp : kPt N G ν) (m1 : ∀ a, a < G → mem a < N ∧ ν (mem a) = a ∧ ∀ k', k' < mem a → ν k' < a) (m3 : ∀ s, s < N → mem (ν s) ≤ s) :
    ∀ k j w, j + k = N → w ≤ G → (∀ a, a < w → mem a < j) → (w < G → j ≤ mem w) → jval d 47 14 [.ref 19, .ref out, .long (lN (np (flW (fun q => ν (T (3 * mem (q / 3) + q % 3))) w 0) 15)), jjunk, .long (lN (np (flW (fun q => ν (T (3 * mem (q / 3) + q % 3))) w 5) 15)), jjunk, .int (nI (kEm (fun a => en (mem a)) w)), .int (nI w), .int (nI j), jjunk, jjunk, jjunk] [] (jGs L g, I, J) = jval d 47 161 [jjunk, .ref out, .long (lN (np (flW (fun q => ν (T (3 * mem (q / 3) + q % 3))) G 0) 15)), jjunk, .long (lN (np (flW (fun q => ν (T (3 * mem (q / 3) + q % 3))) G 5) 15)), jjunk, .int (nI (kEm (fun a => en (mem a)) G)), .int (nI G), jjunk, jjunk, jjunk, jjunk] [] (jGs L g, I, J) := by
  have hp5 : 2 ^ c ≤ 2 ^ 14 := Nat.pow_le_pow_right (by omega) hc
  have h10 := hp.1
  intro k
  induction k with
  | zero =>
    intro j w hj hw ha hb
    have : j = N := by omega
    subst this
    have hwG : w = G := by
      apply Classical.byContradiction
      intro hne
      have := hb (by omega)
      have := (m1 w (by omega)).1
      omega
    subst hwG
    rw [e_Maker_write_14, h7, jif_t (nI_le (Nat.le_refl _) (by omega))]
  | succ k ih =>
    intro j w hj hw ha hb
    have hv := hgr j (by omega)
    by_cases hwG : w = G
    · subst hwG
      rw [e_Maker_write_14, h7, jif_f (nI_ge (by omega) (by omega)), h16, jif_t (nI_le (Nat.le_refl _) (by omega))]
    · by_cases hjw : ν j = w
      · have hjm : j = mem w := by
          have h1 := hb (by omega)
          have h2 := m3 j (by omega)
          rw [hjw] at h2
          omega
        have hνl : ∀ i, i < N → ν i < 10 := fun i hi => by have := hp.2.1 i hi; omega
        have t0 := hT (3 * j) (by omega)
        have t1 := hT (3 * j + 1) (by omega)
        have t2 := hT (3 * j + 2) (by omega)
        have u0 : I rr (4 * j) = nI (T (3 * j)) := by
          have := hrr (3 * j) (by omega)
          rw [show 4 * (3 * j / 3) + 3 * j % 3 = 4 * j by omega] at this
          exact this
        have u1 : I rr (4 * j + 1) = nI (T (3 * j + 1)) := by
          have := hrr (3 * j + 1) (by omega)
          rw [show 4 * ((3 * j + 1) / 3) + (3 * j + 1) % 3 = 4 * j + 1 by omega] at this
          exact this
        have u2 : I rr (4 * j + 2) = nI (T (3 * j + 2)) := by
          have := hrr (3 * j + 2) (by omega)
          rw [show 4 * ((3 * j + 2) / 3) + (3 * j + 2) % 3 = 4 * j + 2 by omega] at this
          exact this
        have u3 := hre j (by omega)
        have v0 := hgr _ t0
        have v1 := hgr _ t1
        have v2 := hgr _ t2
        have y1 := hνl _ t0
        have y2 := hνl _ t1
        have y3 := hνl _ t2
        have q0 : ν (T (3 * j)) = (fun q => ν (T (3 * mem (q / 3) + q % 3))) (3 * w) := by
          show _ = ν (T (3 * mem (3 * w / 3) + 3 * w % 3))
          rw [show 3 * w / 3 = w by omega, show 3 * w % 3 = 0 by omega, ← hjm, Nat.add_zero]
        have q1 : ν (T (3 * j + 1)) = (fun q => ν (T (3 * mem (q / 3) + q % 3))) (3 * w + 1) := by
          show _ = ν (T (3 * mem ((3 * w + 1) / 3) + (3 * w + 1) % 3))
          rw [show (3 * w + 1) / 3 = w by omega, show (3 * w + 1) % 3 = 1 by omega, ← hjm]
        have q2 : ν (T (3 * j + 2)) = (fun q => ν (T (3 * mem (q / 3) + q % 3))) (3 * w + 2) := by
          show _ = ν (T (3 * mem ((3 * w + 2) / 3) + (3 * w + 2) % 3))
          rw [show (3 * w + 2) / 3 = w by omega, show (3 * w + 2) % 3 = 2 by omega, ← hjm]
        have hq16 : ∀ q, q < 3 * (w + 1) → (fun q => ν (T (3 * mem (q / 3) + q % 3))) q < 16 := fun q hq => by
          have := (m1 (q / 3) (by omega)).1
          have := hνl _ (hT (3 * mem (q / 3) + q % 3) (by omega))
          show ν (T (3 * mem (q / 3) + q % 3)) < 16
          omega
        have ht : ((ν (T (3 * j)) ||| ν (T (3 * j + 1)) * 2 ^ 4) ||| ν (T (3 * j + 2)) * 2 ^ 8) = (((fun q => ν (T (3 * mem (q / 3) + q % 3))) (3 * w) ||| (fun q => ν (T (3 * mem (q / 3) + q % 3))) (3 * w + 1) * 2 ^ 4) ||| (fun q => ν (T (3 * mem (q / 3) + q % 3))) (3 * w + 2) * 2 ^ 8) := by rw [q0, q1, q2]
        have htl : ((ν (T (3 * j)) ||| ν (T (3 * j + 1)) * 2 ^ 4) ||| ν (T (3 * j + 2)) * 2 ^ 8) < 2147483648 := by
          rw [or_add (k := 4) (by omega), or_add (k := 8) (by omega)]
          omega
        have hih := ih (j + 1) (w + 1) (by omega) (by omega) (fun a haw => by
          by_cases haw' : a = w
          · rw [haw', ← hjm]; omega
          · have := ha a (by omega); omega) (fun hlt => by
          apply Classical.byContradiction
          intro hgt
          have h1 := (m1 (w + 1) hlt).2.2
          have h2 := (m1 (w + 1) hlt).2.1
          by_cases he : mem (w + 1) = j
          · rw [he] at h2; omega
          · have h3 := (m1 w (by omega)).2.2 (mem (w + 1)) (by omega)
            omega)
        rw [show kEm (fun a => en (mem a)) (w + 1) = kEm (fun a => en (mem a)) w ||| (if en (mem w) = true then 2 ^ w else 0) from rfl, ← hjm] at hih
        have hbit : kEm (fun a => en (mem a)) w ||| (if en j = true then 1 else 0) * 2 ^ w = kEm (fun a => en (mem a)) w ||| (if en j = true then 2 ^ w else 0) := by
          split
          · rw [Nat.one_mul]
          · rw [Nat.zero_mul]
        have hpw : (if en j = true then 1 else 0) * 2 ^ w < 4294967296 := by
          have : 2 ^ w ≤ 2 ^ 10 := Nat.pow_le_pow_right (by omega) (by omega)
          split <;> omega
        have e135 : ∀ l2' l4' : Int64, jval d 47 135 [.ref 19, .ref out, .long l2', jjunk, .long l4', jjunk, .int (nI (kEm (fun a => en (mem a)) w)), .int (nI w), .int (nI j), .int (nI (4 * j)), jjunk, jjunk] [] (jGs L g, I, J) = jval d 47 14 [.ref 19, .ref out, .long l2', jjunk, .long l4', jjunk, .int (nI (kEm (fun a => en (mem a)) w ||| (if en j = true then 2 ^ w else 0))), .int (nI (w + 1)), .int (nI (j + 1)), jjunk, jjunk, jjunk] [] (jGs L g, I, J) := by
          intro l2' l4'
          rw [e_Maker_write_135]
          simp (disch := omega) only [li_0, li_1, li_2, li_3, li_4, li_5, li_6, li_7, li_8, li_9, li_10, li_11, li_12, li_13, li_14, li_15, li_16, li_17, li_18, li_19, li_20, li_21, li_22, li_23, li_24, li_25, li_26, li_27, li_28, li_29, li_30, li_31, li_32, li_33, li_34, li_35, li_36, li_37, li_38, li_39, li_40, li_41, li_42, li_43, li_44, li_45, li_46, li_47, li_48, li_49, li_50, li_51, li_52, li_53, li_54, li_55, li_56, li_57, li_58, li_59, li_60, li_61, li_62, li_63, li_64, li_65, li_66, li_67, li_68, li_69, li_70, li_71, li_72, li_73, li_74, li_75, li_76, li_77, li_78, li_79, li_80, li_81, li_82, li_83, li_84, li_85, li_86, li_87, li_88, li_89, li_90, li_91, li_92, li_93, li_94, li_95, li_96, li_97, li_98, li_99, li_100, li_101, li_102, li_103, li_104, li_105, li_106, li_107, li_108, li_109, li_110, li_111, li_112, li_113, li_114, li_115, li_116, li_117, li_118, li_119, li_120, li_121, li_122, li_123, li_124, li_125, li_126, li_127, li_128, li_160, li_219, li_220, li_248, li_249, li_250, li_251, li_255, li_999, li_1000, li_1023, li_1024, li_10240, li_999999, li_1048576, li_1048575, nI_add, nI_mul, zi_div, zi_eq, zi_le, zi_lt, zi_in, zi_c, zi_sub, zi_ofN, zi_m1e, zi_m1e', zi_m1lt, zi_m1le, zi_ltm1, zi_lem1, zi_m1m1, jif_T, jif_F, jif_t, jif_f, zb_1, zb_0, zb_01, zb_ft, zn_01a, zn_01b, zi_tst, zi_pow, cond_true, jcI_some, jcV_some, jcJ_some, Nat.reduceAdd, Nat.reduceMul, Nat.reduceSub, reduceCtorEq, Bool.true_eq_false, Bool.false_eq_true, zb_t, zb_f, Nat.add_zero, Nat.zero_add, Nat.mul_zero, Nat.zero_mul, or_true, true_or, or_false, false_or, and_true, true_and, and_false, false_and, not_true_eq_false, not_false_eq_true, jo_some, ↓reduceIte, zi_shl, zi_or, r2, k2, l2, u3, hbit]
          rw [e_Maker_write_155]
          simp (disch := omega) only [li_0, li_1, li_2, li_3, li_4, li_5, li_6, li_7, li_8, li_9, li_10, li_11, li_12, li_13, li_14, li_15, li_16, li_17, li_18, li_19, li_20, li_21, li_22, li_23, li_24, li_25, li_26, li_27, li_28, li_29, li_30, li_31, li_32, li_33, li_34, li_35, li_36, li_37, li_38, li_39, li_40, li_41, li_42, li_43, li_44, li_45, li_46, li_47, li_48, li_49, li_50, li_51, li_52, li_53, li_54, li_55, li_56, li_57, li_58, li_59, li_60, li_61, li_62, li_63, li_64, li_65, li_66, li_67, li_68, li_69, li_70, li_71, li_72, li_73, li_74, li_75, li_76, li_77, li_78, li_79, li_80, li_81, li_82, li_83, li_84, li_85, li_86, li_87, li_88, li_89, li_90, li_91, li_92, li_93, li_94, li_95, li_96, li_97, li_98, li_99, li_100, li_101, li_102, li_103, li_104, li_105, li_106, li_107, li_108, li_109, li_110, li_111, li_112, li_113, li_114, li_115, li_116, li_117, li_118, li_119, li_120, li_121, li_122, li_123, li_124, li_125, li_126, li_127, li_128, li_160, li_219, li_220, li_248, li_249, li_250, li_251, li_255, li_999, li_1000, li_1023, li_1024, li_10240, li_999999, li_1048576, li_1048575, nI_add, nI_mul, zi_div, zi_eq, zi_le, zi_lt, zi_in, zi_c, zi_sub, zi_ofN, zi_m1e, zi_m1e', zi_m1lt, zi_m1le, zi_ltm1, zi_lem1, zi_m1m1, jif_T, jif_F, jif_t, jif_f, zb_1, zb_0, zb_01, zb_ft, zn_01a, zn_01b, zi_tst, zi_pow, cond_true, jcI_some, jcV_some, jcJ_some, Nat.reduceAdd, Nat.reduceMul, Nat.reduceSub, reduceCtorEq, Bool.true_eq_false, Bool.false_eq_true, zb_t, zb_f, Nat.add_zero, Nat.zero_add, Nat.mul_zero, Nat.zero_mul, or_true, true_or, or_false, false_or, and_true, true_and, and_false, false_and, not_true_eq_false, not_false_eq_true]
        by_cases h5 : w < 5
        · have hlow := flW_or (s := 0) (w := w) (by omega) (by omega) hq16 ht
          rw [Nat.sub_zero] at hlow
          have hhigh : np (flW (fun q => ν (T (3 * mem (q / 3) + q % 3))) w 5) 15 = np (flW (fun q => ν (T (3 * mem (q / 3) + q % 3))) (w + 1) 5) 15 := np_cg 15 (fun x hx => by
            unfold flW
            rw [if_neg (by omega), if_neg (by omega)])
          rw [e_Maker_write_14]
          simp (disch := omega) only [li_0, li_1, li_2, li_3, li_4, li_5, li_6, li_7, li_8, li_9, li_10, li_11, li_12, li_13, li_14, li_15, li_16, li_17, li_18, li_19, li_20, li_21, li_22, li_23, li_24, li_25, li_26, li_27, li_28, li_29, li_30, li_31, li_32, li_33, li_34, li_35, li_36, li_37, li_38, li_39, li_40, li_41, li_42, li_43, li_44, li_45, li_46, li_47, li_48, li_49, li_50, li_51, li_52, li_53, li_54, li_55, li_56, li_57, li_58, li_59, li_60, li_61, li_62, li_63, li_64, li_65, li_66, li_67, li_68, li_69, li_70, li_71, li_72, li_73, li_74, li_75, li_76, li_77, li_78, li_79, li_80, li_81, li_82, li_83, li_84, li_85, li_86, li_87, li_88, li_89, li_90, li_91, li_92, li_93, li_94, li_95, li_96, li_97, li_98, li_99, li_100, li_101, li_102, li_103, li_104, li_105, li_106, li_107, li_108, li_109, li_110, li_111, li_112, li_113, li_114, li_115, li_116, li_117, li_118, li_119, li_120, li_121, li_122, li_123, li_124, li_125, li_126, li_127, li_128, li_160, li_219, li_220, li_248, li_249, li_250, li_251, li_255, li_999, li_1000, li_1023, li_1024, li_10240, li_999999, li_1048576, li_1048575, nI_add, nI_mul, zi_div, zi_eq, zi_le, zi_lt, zi_in, zi_c, zi_sub, zi_ofN, zi_m1e, zi_m1e', zi_m1lt, zi_m1le, zi_ltm1, zi_lem1, zi_m1m1, jif_T, jif_F, jif_t, jif_f, zb_1, zb_0, zb_01, zb_ft, zn_01a, zn_01b, zi_tst, zi_pow, cond_true, jcI_some, jcV_some, jcJ_some, Nat.reduceAdd, Nat.reduceMul, Nat.reduceSub, reduceCtorEq, Bool.true_eq_false, Bool.false_eq_true, zb_t, zb_f, Nat.add_zero, Nat.zero_add, Nat.mul_zero, Nat.zero_mul, or_true, true_or, or_false, false_or, and_true, true_and, and_false, false_and, not_true_eq_false, not_false_eq_true, jo_some, ↓reduceIte, zi_shl, zi_or, zl_w, zl_shl, zl_or, r1, r2, k2, k4, l2, l4, h7, h16, hv, hjw, u0, u1, u2, v0, v1, v2, hlow, hhigh]
          rw [e135]
          exact hih
        · have hhigh := flW_or (s := 5) (w := w) (by omega) (by omega) hq16 ht
          have hlow : np (flW (fun q => ν (T (3 * mem (q / 3) + q % 3))) w 0) 15 = np (flW (fun q => ν (T (3 * mem (q / 3) + q % 3))) (w + 1) 0) 15 := np_cg 15 (fun x hx => by
            unfold flW
            rw [if_pos (by omega), if_pos (by omega)])
          rw [e_Maker_write_14]
          simp (disch := omega) only [li_0, li_1, li_2, li_3, li_4, li_5, li_6, li_7, li_8, li_9, li_10, li_11, li_12, li_13, li_14, li_15, li_16, li_17, li_18, li_19, li_20, li_21, li_22, li_23, li_24, li_25, li_26, li_27, li_28, li_29, li_30, li_31, li_32, li_33, li_34, li_35, li_36, li_37, li_38, li_39, li_40, li_41, li_42, li_43, li_44, li_45, li_46, li_47, li_48, li_49, li_50, li_51, li_52, li_53, li_54, li_55, li_56, li_57, li_58, li_59, li_60, li_61, li_62, li_63, li_64, li_65, li_66, li_67, li_68, li_69, li_70, li_71, li_72, li_73, li_74, li_75, li_76, li_77, li_78, li_79, li_80, li_81, li_82, li_83, li_84, li_85, li_86, li_87, li_88, li_89, li_90, li_91, li_92, li_93, li_94, li_95, li_96, li_97, li_98, li_99, li_100, li_101, li_102, li_103, li_104, li_105, li_106, li_107, li_108, li_109, li_110, li_111, li_112, li_113, li_114, li_115, li_116, li_117, li_118, li_119, li_120, li_121, li_122, li_123, li_124, li_125, li_126, li_127, li_128, li_160, li_219, li_220, li_248, li_249, li_250, li_251, li_255, li_999, li_1000, li_1023, li_1024, li_10240, li_999999, li_1048576, li_1048575, nI_add, nI_mul, zi_div, zi_eq, zi_le, zi_lt, zi_in, zi_c, zi_sub, zi_ofN, zi_m1e, zi_m1e', zi_m1lt, zi_m1le, zi_ltm1, zi_lem1, zi_m1m1, jif_T, jif_F, jif_t, jif_f, zb_1, zb_0, zb_01, zb_ft, zn_01a, zn_01b, zi_tst, zi_pow, cond_true, jcI_some, jcV_some, jcJ_some, Nat.reduceAdd, Nat.reduceMul, Nat.reduceSub, reduceCtorEq, Bool.true_eq_false, Bool.false_eq_true, zb_t, zb_f, Nat.add_zero, Nat.zero_add, Nat.mul_zero, Nat.zero_mul, or_true, true_or, or_false, false_or, and_true, true_and, and_false, false_and, not_true_eq_false, not_false_eq_true, jo_some, ↓reduceIte, zi_shl, zi_or, zl_w, zl_shl, zl_or, r1, r2, k2, k4, l2, l4, h7, h16, hv, hjw, u0, u1, u2, v0, v1, v2, hhigh, hlow]
          rw [e135]
          exact hih
      · have hih := ih (j + 1) w (by omega) hw (fun a haw => by have := ha a haw; omega) (fun hlt => by
          have h1 := hb hlt
          by_cases he : mem w = j
          · have := (m1 w hlt).2.1
            rw [he] at this
            omega
          · omega)
        have hvl := hp.2.1 j (by omega)
        rw [e_Maker_write_14]
        simp (disch := omega) only [li_0, li_1, li_2, li_3, li_4, li_5, li_6, li_7, li_8, li_9, li_10, li_11, li_12, li_13, li_14, li_15, li_16, li_17, li_18, li_19, li_20, li_21, li_22, li_23, li_24, li_25, li_26, li_27, li_28, li_29, li_30, li_31, li_32, li_33, li_34, li_35, li_36, li_37, li_38, li_39, li_40, li_41, li_42, li_43, li_44, li_45, li_46, li_47, li_48, li_49, li_50, li_51, li_52, li_53, li_54, li_55, li_56, li_57, li_58, li_59, li_60, li_61, li_62, li_63, li_64, li_65, li_66, li_67, li_68, li_69, li_70, li_71, li_72, li_73, li_74, li_75, li_76, li_77, li_78, li_79, li_80, li_81, li_82, li_83, li_84, li_85, li_86, li_87, li_88, li_89, li_90, li_91, li_92, li_93, li_94, li_95, li_96, li_97, li_98, li_99, li_100, li_101, li_102, li_103, li_104, li_105, li_106, li_107, li_108, li_109, li_110, li_111, li_112, li_113, li_114, li_115, li_116, li_117, li_118, li_119, li_120, li_121, li_122, li_123, li_124, li_125, li_126, li_127, li_128, li_160, li_219, li_220, li_248, li_249, li_250, li_251, li_255, li_999, li_1000, li_1023, li_1024, li_10240, li_999999, li_1048576, li_1048575, nI_add, nI_mul, zi_div, zi_eq, zi_le, zi_lt, zi_in, zi_c, zi_sub, zi_ofN, zi_m1e, zi_m1e', zi_m1lt, zi_m1le, zi_ltm1, zi_lem1, zi_m1m1, jif_T, jif_F, jif_t, jif_f, zb_1, zb_0, zb_01, zb_ft, zn_01a, zn_01b, zi_tst, zi_pow, cond_true, jcI_some, jcV_some, jcJ_some, Nat.reduceAdd, Nat.reduceMul, Nat.reduceSub, reduceCtorEq, Bool.true_eq_false, Bool.false_eq_true, zb_t, zb_f, Nat.add_zero, Nat.zero_add, Nat.mul_zero, Nat.zero_mul, or_true, true_or, or_false, false_or, and_true, true_and, and_false, false_and, not_true_eq_false, not_false_eq_true, jo_some, ↓reduceIte, r1, k4, l4, h7, h16, hv, hjw]
        rw [e_Maker_write_155]
        simp (disch := omega) only [li_0, li_1, li_2, li_3, li_4, li_5, li_6, li_7, li_8, li_9, li_10, li_11, li_12, li_13, li_14, li_15, li_16, li_17, li_18, li_19, li_20, li_21, li_22, li_23, li_24, li_25, li_26, li_27, li_28, li_29, li_30, li_31, li_32, li_33, li_34, li_35, li_36, li_37, li_38, li_39, li_40, li_41, li_42, li_43, li_44, li_45, li_46, li_47, li_48, li_49, li_50, li_51, li_52, li_53, li_54, li_55, li_56, li_57, li_58, li_59, li_60, li_61, li_62, li_63, li_64, li_65, li_66, li_67, li_68, li_69, li_70, li_71, li_72, li_73, li_74, li_75, li_76, li_77, li_78, li_79, li_80, li_81, li_82, li_83, li_84, li_85, li_86, li_87, li_88, li_89, li_90, li_91, li_92, li_93, li_94, li_95, li_96, li_97, li_98, li_99, li_100, li_101, li_102, li_103, li_104, li_105, li_106, li_107, li_108, li_109, li_110, li_111, li_112, li_113, li_114, li_115, li_116, li_117, li_118, li_119, li_120, li_121, li_122, li_123, li_124, li_125, li_126, li_127, li_128, li_160, li_219, li_220, li_248, li_249, li_250, li_251, li_255, li_999, li_1000, li_1023, li_1024, li_10240, li_999999, li_1048576, li_1048575, nI_add, nI_mul, zi_div, zi_eq, zi_le, zi_lt, zi_in, zi_c, zi_sub, zi_ofN, zi_m1e, zi_m1e', zi_m1lt, zi_m1le, zi_ltm1, zi_lem1, zi_m1m1, jif_T, jif_F, jif_t, jif_f, zb_1, zb_0, zb_01, zb_ft, zn_01a, zn_01b, zi_tst, zi_pow, cond_true, jcI_some, jcV_some, jcJ_some, Nat.reduceAdd, Nat.reduceMul, Nat.reduceSub, reduceCtorEq, Bool.true_eq_false, Bool.false_eq_true, zb_t, zb_f, Nat.add_zero, Nat.zero_add, Nat.mul_zero, Nat.zero_mul, or_true, true_or, or_false, false_or, and_true, true_and, and_false, false_and, not_true_eq_false, not_false_eq_true]
        exact hih
end CC

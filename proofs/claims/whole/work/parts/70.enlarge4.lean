/-! THE CLASS: enlarge, whole -/
set_option maxRecDepth 100000
/-- what the maker may still take, taken -/
def pC (g : jG) (c : Nat) : Nat := g.2.2.2.1 + 5 * (14 - c)
def pQ (g : jG) (c : Nat) : Nat := g.2.2.2.2 + 9 * (32768 - 2 ^ (c + 1))
section CC
variable (d L : Nat)
theorem c_enl_166 {g : jG} {I : Nat → Nat → Int32} {J : Nat → Nat → Int64} {f : Nat} (h8 : I 19 8 = nI (2 ^ f)) : jval d 44 166 [.ref 19, jjunk, jjunk, jjunk, jjunk] [] (jGs L g, I, J) = jval d 44 177 [.ref 19, .int (nI (2 ^ (f + 1) - 1)), .int (nI 0), jjunk, jjunk] [] (jGs L g, I, J) := by
  have hp4 : 2 ^ (f + 1) = 2 * 2 ^ f := by rw [Nat.pow_succ]; omega
  have hp0 : 0 < 2 ^ f := Nat.two_pow_pos f
  rw [e_Maker_enlarge_166, h8, show (2 : Int32) * nI (2 ^ f) - 1 = nI (2 ^ (f + 1) - 1) by rw [show (2 : Int32) = nI 2 from rfl, nI_mul, show (1 : Int32) = nI 1 from rfl, pk_sub (by omega), hp4], show (0 : Int32) = nI 0 from rfl]
theorem c_enlarge {g : jG} {I : Nat → Nat → Int32} {J : Nat → Nat → Int64} {kr rr sr gr fr c n s m E e base N G : Nat} {stp K p σ ν : Nat → Nat} (hA : mkA L g kr rr sr gr fr c) (hM : mkM I J n s m E stp e base) (hF : mkF I J kr rr sr gr n s m E stp e base N G K p σ ν) (hec : e ≤ c) (hc : c ≤ 14) (he : e ≤ 13) (hS : ∀ x, x < 2 * 2 ^ c → ∃ v, v ≤ base + N ∧ I sr x = nI v) (h168 : 170 ≤ g.2.2.2.1) (hC : pC g c ≤ 600000) (hQ : pQ g c ≤ 7302250) :
    ∃ g' I' J' kr' rr' sr' gr' fr' c' p', mkA L g' kr' rr' sr' gr' fr' c' ∧ e + 1 ≤ c' ∧ c' ≤ 14 ∧ pC g' c' = pC g c ∧ pQ g' c' = pQ g c ∧ mkM I' J' n s m E stp (e + 1) (base + N) ∧ mkF I' J' kr' rr' sr' gr' n s m E stp (e + 1) (base + N) N G K p' σ ν ∧ (∀ x, x < 2 * 2 ^ c' → ∃ v, v ≤ base + N + N ∧ I' sr' x = nI v) ∧ (∀ i, i < N → ∀ l, l < 3 → I' rr' (4 * i + l) = I rr (4 * i + l)) ∧ fG L g g' I I' J J' ∧
      jcall (d + 1) 44 [.ref 19] (jGs L g, I, J) = some (none, (jGs L g', I', J')) := by
  obtain ⟨a1, a2, a3, a4, a5, a6, a7, a8, a9, a10, a11, a12, a13, a14, a15, a16, a17, a18, a19, a20, a21, a22, a23, a24⟩ := id hA
  obtain ⟨m1, m2, m3, m4, m5, m6, m7, m8, m9, m10, m11, m12, m13⟩ := id hM
  obtain ⟨f1, f2, f3, f4, f5, f6, f7, f8, f9, f10⟩ := id hF
  have hp1 : 2 ^ 6 ≤ 2 ^ e := Nat.pow_le_pow_right (by omega) m9
  have hp2 : 2 ^ e ≤ 2 ^ 13 := Nat.pow_le_pow_right (by omega) he
  have hp3 : 2 ^ e ≤ 2 ^ c := Nat.pow_le_pow_right (by omega) hec
  have hp5 : 2 ^ c ≤ 2 ^ 14 := Nat.pow_le_pow_right (by omega) hc
  have hp4 : 2 ^ (e + 1) = 2 * 2 ^ e := by rw [Nat.pow_succ]; omega
  have n1 : 19 ≠ kr := ne_K (gK_19 L g) a6 (by omega)
  have n2 : 19 ≠ rr := ne_K (gK_19 L g) a7 (by omega)
  have n3 : 19 ≠ sr := ne_K (gK_19 L g) a8 (by omega)
  have n4 : 19 ≠ gr := ne_K (gK_19 L g) a9 (by omega)
  have n7 : gr ≠ sr := ne_K a9 a8 (by omega)
  have hν : ∀ i, i < N → ν i < 10 := fun i hi => by have := (f7.2.1 i hi).1; omega
  by_cases hlt : e < c
  · have hp6 : 2 ^ (e + 1) ≤ 2 ^ c := Nat.pow_le_pow_right (by omega) hlt
    have k1 : (jGs L g).1 kr = 15 := a6
    have l1 : (jGs L g).2.1 kr = 2 ^ c := a11
    have h14 : (14 : Nat) ≤ 15 := by omega
    have h88 : ju (ju I 19 8 (nI (2 ^ e * 2))) 19 12 (nI (base + N)) 19 8 = nI (2 ^ (e + 1)) := by rw [zu_k (by omega), zu_at, hp4, Nat.mul_comm]
    obtain ⟨I', p', q1, q2, q3, q4⟩ := c_enl_177 d L g (J := J) (kr := kr) (sr := sr) (c := c) (f := e + 1) (base := base + N) (N := N) (K := K) a1 a3 a6 a8 a11 a13 a17 n3 hc (by omega) (by omega) (by omega) (by omega) f6.1 N 0 (ju (ju I 19 8 (nI (2 ^ e * 2))) 19 12 (nI (base + N))) (fun _ => 0) (by omega) (zu_at _ _ _ _) (by rw [zu_k (by omega), zu_k (by omega)]; exact f1) (fun i hi => by rw [zu_a (by omega), zu_a (by omega)]; exact (f5 i hi).2) (tbl_0 (fun x hx => by rw [zu_row (by omega), zu_row (by omega)]; exact hS x (by omega))) (fun x hx => by rw [zu_a (by omega), zu_a (by omega)]; obtain ⟨v, v1, v2⟩ := hS x hx; exact ⟨v, by omega, v2⟩)
    have i19 : ∀ j, j ≠ 8 → j ≠ 12 → I' 19 j = I 19 j := fun j j1 j2 => by rw [q1 19 n3, zu_k j2, zu_k j1]
    have irow : ∀ a, a ≠ sr → a ≠ 19 → I' a = I a := fun a h1 h2 => by rw [q1 a h1, ju_n h2, ju_n h2]
    refine ⟨g, I', J, kr, rr, sr, gr, fr, c, p', hA, by omega, hc, rfl, rfl, ⟨by rw [i19 4 (by omega) (by omega)]; exact m1, by rw [i19 5 (by omega) (by omega)]; exact m2, by rw [i19 6 (by omega) (by omega)]; exact m3, by rw [q1 19 n3]; exact h88, by rw [q1 19 n3, zu_at], m6, m7, m8, by omega, by omega, by omega, m12, m13⟩, ⟨by rw [i19 7 (by omega) (by omega)]; exact f1, by rw [i19 16 (by omega) (by omega)]; exact f2, f3, by omega, fun i hi => by rw [irow kr a17 (by omega)]; exact f5 i hi, q2, f7, f8, fun i hi => by rw [irow gr n7 (by omega)]; exact f9 i hi, fun i hi => by rw [irow rr a18 (by omega)]; exact f10 i hi⟩, q3, fun i hi l hl => by rw [irow rr a18 (by omega)], ?_, ?_⟩
    · refine fG_same (fun a ha => ⟨irow a (fun e => ha ?_) (fun e => ha (Or.inl e)), rfl⟩)
      unfold mkO
      rw [e]
      simp only [a3, true_or, or_true]
    · rw [c_Maker_enlarge, e_Maker_enlarge_0]
      simp (disch := omega) only [li_0, li_1, li_2, li_3, li_4, li_5, li_6, li_7, li_8, li_9, li_10, li_11, li_12, li_13, li_14, li_15, li_16, li_17, li_18, li_19, li_20, li_21, li_22, li_23, li_24, li_25, li_26, li_27, li_28, li_29, li_30, li_31, li_32, li_33, li_34, li_35, li_36, li_37, li_38, li_39, li_40, li_41, li_42, li_43, li_44, li_45, li_46, li_47, li_48, li_49, li_50, li_51, li_52, li_53, li_54, li_55, li_56, li_57, li_58, li_59, li_60, li_61, li_62, li_63, li_64, li_65, li_66, li_67, li_68, li_69, li_70, li_71, li_72, li_73, li_74, li_75, li_76, li_77, li_78, li_79, li_80, li_81, li_82, li_83, li_84, li_85, li_86, li_87, li_88, li_89, li_90, li_91, li_92, li_93, li_94, li_95, li_96, li_97, li_98, li_99, li_100, li_101, li_102, li_103, li_104, li_105, li_106, li_107, li_108, li_109, li_110, li_111, li_112, li_113, li_114, li_115, li_116, li_117, li_118, li_119, li_120, li_121, li_122, li_123, li_124, li_125, li_126, li_127, li_128, li_160, li_219, li_220, li_248, li_249, li_250, li_251, li_255, li_999, li_1000, li_1023, li_1024, li_10240, li_999999, li_1048576, li_1048575, nI_add, nI_mul, zi_div, zi_eq, zi_le, zi_lt, zi_in, zi_c, zi_sub, zi_ofN, zi_m1e, zi_m1e', zi_m1lt, zi_m1le, zi_ltm1, zi_lem1, zi_m1m1, jif_T, jif_F, jif_t, jif_f, zb_1, zb_0, zb_01, zb_ft, zn_01a, zn_01b, zi_tst, zi_pow, cond_true, jcI_some, jcV_some, jcJ_some, Nat.reduceAdd, Nat.reduceMul, Nat.reduceSub, reduceCtorEq, Bool.true_eq_false, Bool.false_eq_true, zb_t, zb_f, Nat.add_zero, Nat.zero_add, Nat.mul_zero, Nat.zero_mul, or_true, true_or, or_false, false_or, and_true, true_and, and_false, false_and, not_true_eq_false, not_false_eq_true, jo_some, ↓reduceIte, a1, k1, l1, h14, f1, m4, m5]
      rw [c_enl_166 d L h88]
      exact q4
  · have hce : c = e := by omega
    subst hce
    unfold pC at hC
    unfold pQ at hQ
    have hp7 : 2 ^ (c + 1) ≤ 2 ^ 14 := Nat.pow_le_pow_right (by omega) (by omega)
    have hp8 : 2 ^ (c + 1 + 1) = 2 * 2 ^ (c + 1) := by rw [Nat.pow_succ]; omega
    obtain ⟨g', I1, J1, x1, x2, x3, x4, x5, x6, x7, x8, x9, x10, x11, x12, x13, x14⟩ := c_enl_new d L (J := J) (K := K) (ν := ν) (base := base) (N := N) hA (by omega) h168 (by omega) (by omega) f1 m4 m5 f4 (fun i hi => (f5 i hi).2) f9 hν
    obtain ⟨b1, b2, b3, b4, b5, b6, b7, b8, b9, b10, b11, b12, b13, b14, b15, b16, b17, b18, b19, b20, b21, b22, b23, b24⟩ := id x1
    generalize hCd : g.2.2.2.1 = C at *
    obtain ⟨I', p', q1, q2, q3, q4⟩ := c_enl_177 d L g' (J := J1) (kr := C + 1) (sr := C + 5) (c := c + 1) (f := c + 1) (base := base + N) (N := N) (K := K) b1 b3 b6 b8 b11 b13 b17 (by omega) (by omega) (by omega) (by omega) (by omega) (by omega) f6.1 N 0 I1 (fun _ => 0) (by omega) x10 (by rw [x8 7 (by omega) (by omega)]; exact f1) (fun i hi => (x11 i hi).1) (tbl_0 (fun x hx => ⟨0, by omega, x13 x⟩)) (fun x hx => ⟨0, by omega, x13 x⟩)
    have i19 : ∀ j, j ≠ 8 → j ≠ 12 → I' 19 j = I 19 j := fun j j1 j2 => by rw [q1 19 (by omega)]; exact x8 j j1 j2
    have j20 : J1 20 = J 20 := x7 20 (by omega)
    have j21 : J1 21 = J 21 := x7 21 (by omega)
    have j29 : J1 29 = J 29 := x7 29 (by omega)
    refine ⟨g', I', J1, C + 1, C + 2, C + 5, C + 3, C + 4, c + 1, p', x1, by omega, by omega, by unfold pC; rw [x2, hCd]; omega, by unfold pQ; rw [x3, hp8]; omega, ⟨by rw [i19 4 (by omega) (by omega)]; exact m1, by rw [i19 5 (by omega) (by omega)]; exact m2, by rw [i19 6 (by omega) (by omega)]; exact m3, by rw [q1 19 (by omega)]; exact x9, by rw [q1 19 (by omega)]; exact x10, m6, m7, m8, by omega, by omega, by omega, fun q hq => by rw [j20]; exact m12 q hq, fun q hq => by rw [j21]; exact m13 q hq⟩, ⟨by rw [i19 7 (by omega) (by omega)]; exact f1, by rw [i19 16 (by omega) (by omega)]; exact f2, f3, by omega, fun i hi => by rw [q1 _ (by omega)]; exact ⟨(f5 i hi).1, (x11 i hi).1⟩, q2, f7, fun a ha => by rw [j29]; exact f8 a ha, fun i hi => by rw [q1 _ (by omega)]; exact (x11 i hi).2, fun i hi => by rw [q1 _ (by omega), x12 _ (by omega)]; exact f10 i hi⟩, q3, fun i hi l hl => by rw [q1 _ (by omega), x12 _ (by omega)], ?_, ?_⟩
    · refine ⟨fun a ha hn => ?_, fun a ha => x4 a (by omega), fun a k ha hn => x5 a k (by omega) hn, by omega⟩
      have h19 : a ≠ 19 := fun e => hn (Or.inl e)
      refine ⟨by rw [q1 a (by omega)]; exact x6 a (by omega) h19, x7 a (by omega), fun ho => ?_⟩
      unfold mkO at ho
      rw [b1, b2, b3, b4, b5] at ho
      rcases ho with h | h | h | h | h | h | h | h | h | h | h
      · exact h19 h
      · exact hn (Or.inr (Or.inl h))
      · exact hn (Or.inr (Or.inr (Or.inl h)))
      · exact hn (Or.inr (Or.inr (Or.inr (Or.inl h))))
      · exact hn (Or.inr (Or.inr (Or.inr (Or.inr (Or.inl h)))))
      · exact hn (Or.inr (Or.inr (Or.inr (Or.inr (Or.inr (Or.inl h))))))
      all_goals (have := Option.some.inj h; omega)
    · rw [x14, c_enl_166 d L x9]
      exact q4
end CC

/-! THE CLASS: join, both, less -/
set_option maxRecDepth 100000
def phP (A : kA) (x : Nat) : Nat := 2 ^ (x / 10) ||| 2 ^ (A.1 + x % 10)
theorem phP_bit (A : kA) (x q : Nat) : (phP A x).testBit q = true ↔ q = x / 10 ∨ q = A.1 + x % 10 := by
  unfold phP
  rw [Nat.testBit_or, Nat.testBit_two_pow, Nat.testBit_two_pow, Bool.or_eq_true, decide_eq_true_iff, decide_eq_true_iff]
  constructor <;> rintro (h | h) <;> first | exact Or.inl h.symm | exact Or.inr h.symm
def eP (A B : kA) : Nat := kEm A.2.1 A.1 ||| kEm B.2.1 B.1 * 2 ^ A.1
theorem eP_bitA {A B : kA} (hA : kV A) {q : Nat} (hq : q < A.1) : (eP A B).testBit q = A.2.1 q := by
  unfold eP
  rw [Nat.testBit_or, mul_pow_bit, decide_eq_false (by omega), Bool.false_and, Bool.or_false, kV_end hA]
theorem eP_bitB {A B : kA} (hA : kV A) (hB : kV B) (r : Nat) : (eP A B).testBit (A.1 + r) = B.2.1 r := by
  unfold eP
  rw [Nat.testBit_or, mul_pow_bit, decide_eq_true (by omega), Bool.true_and, kV_end hA, hA.2.2.1 _ (by omega), Bool.false_or, Nat.add_sub_cancel_left, kV_end hB]
theorem eP_lt {A B : kA} (hA : kV A) (hB : kV B) : eP A B < 1048576 := by
  have h1 := kEm_lt10 hA
  have h2 := kEm_lt10 hB
  have h3 : 2 ^ A.1 ≤ 2 ^ 10 := Nat.pow_le_pow_right (by omega) hA.2.1
  have h4 : kEm B.2.1 B.1 * 2 ^ A.1 ≤ 1023 * 2 ^ 10 := Nat.mul_le_mul (by omega) h3
  exact Nat.or_lt_two_pow (n := 20) (by omega) (by omega)
theorem fP_bitA {A B : kA} {q l j : Nat} (hq : q < A.1) : (fP A B q l).testBit j = true ↔ j = A.2.2 q l := by
  unfold fP
  rw [if_pos hq, Nat.testBit_two_pow, decide_eq_true_iff]
  exact ⟨fun h => h.symm, fun h => h.symm⟩
theorem fP_bitB {A B : kA} {r l j : Nat} : (fP A B (A.1 + r) l).testBit j = true ↔ j = A.1 + B.2.2 r l := by
  unfold fP
  rw [if_neg (by omega), Nat.add_sub_cancel_left, Nat.testBit_two_pow, decide_eq_true_iff]
  exact ⟨fun h => h.symm, fun h => h.symm⟩
theorem sim_P {A B : kA} {m : Nat} (hA : kV A) (hB : kV B) : mSim (A.1 + B.1) A.1 m (eP A B) (fP A B) (nxP A B) (enP (mHow m) A B) 0 (vP A B) (phP A) := by
  have wA := hA.1.1
  have wB := hB.1.1
  have hA10 := hA.2.1
  have hB10 := hB.2.1
  refine ⟨⟨wA.1, wB.1⟩, fun x l hx hl => ?_, fun x hx => ⟨?_, ?_⟩, fun x hx => ?_, Or.inr (fun q hq l hl q' hq' ht => ?_)⟩
  · obtain ⟨v1, v2, v3⟩ := vP_nx wA wB hB10 hx hl
    refine ⟨v1, ?_⟩
    apply Nat.eq_of_testBit_eq
    intro j
    rw [Bool.eq_iff_iff, phP_bit, v2, v3]
    unfold nxM
    rw [kNr_bit]
    have h1 := hx.1
    have h2 := hx.2
    constructor
    · rintro ⟨q, q1, q2, q3⟩
      rcases (phP_bit A x q).mp q2 with e | e
      · subst e
        exact Or.inl ((fP_bitA h1).mp q3)
      · subst e
        exact Or.inr (fP_bitB.mp q3)
    · rintro (h | h)
      · exact ⟨x / 10, by omega, (phP_bit A x _).mpr (Or.inl rfl), (fP_bitA h1).mpr h⟩
      · exact ⟨A.1 + x % 10, by omega, (phP_bit A x _).mpr (Or.inr rfl), fP_bitB.mpr h⟩
  · have := hx.1
    omega
  · have h1 := hx.1
    have h2 := hx.2
    exact Nat.or_lt_two_pow (n := 20) (Nat.pow_lt_pow_right (by omega) (by omega)) (Nat.pow_lt_pow_right (by omega) (by omega))
  · have h1 := hx.1
    have h2 := hx.2
    have e1 : jb (∃ q, q < A.1 + B.1 ∧ q < A.1 ∧ (phP A x).testBit q = true ∧ aq (A.1 + B.1) (fP A B) (eP A B) q [] = true) = A.2.1 (x / 10) := by
      rw [Bool.eq_iff_iff, jb_t]
      constructor
      · rintro ⟨q, q1, q2, q3, q4⟩
        have q5 : (eP A B).testBit q = true := q4
        rw [eP_bitA hA q2] at q5
        rcases (phP_bit A x q).mp q3 with e | e
        · rw [← e]; exact q5
        · omega
      · intro h
        exact ⟨x / 10, by omega, h1, (phP_bit A x _).mpr (Or.inl rfl), by show (eP A B).testBit _ = true; rw [eP_bitA hA h1]; exact h⟩
    have e2 : jb (∃ q, q < A.1 + B.1 ∧ ¬ q < A.1 ∧ (phP A x).testBit q = true ∧ aq (A.1 + B.1) (fP A B) (eP A B) q [] = true) = B.2.1 (x % 10) := by
      rw [Bool.eq_iff_iff, jb_t]
      constructor
      · rintro ⟨q, q1, q2, q3, q4⟩
        have q5 : (eP A B).testBit q = true := q4
        rcases (phP_bit A x q).mp q3 with e | e
        · omega
        · rw [e, eP_bitB hA hB] at q5; exact q5
      · intro h
        exact ⟨A.1 + x % 10, by omega, by omega, (phP_bit A x _).mpr (Or.inr rfl), by show (eP A B).testBit _ = true; rw [eP_bitB hA hB]; exact h⟩
    unfold enM aK enP
    rw [e1, e2]
  · by_cases hqA : q < A.1
    · have := (fP_bitA hqA).mp ht
      have := wA.2 q hqA l hl
      exact ⟨fun _ => hqA, fun _ => by omega⟩
    · obtain ⟨r, rfl⟩ : ∃ r, q = A.1 + r := ⟨q - A.1, by omega⟩
      have := fP_bitB.mp ht
      omega
theorem fj_own {J J' : Nat → Nat → Int64} (h : fj J J') {a : Nat} (h1 : a ≠ 21) (h2 : a ≠ 22) (h3 : a ≠ 23) : J' a = J a := h a h1 h2 h3
theorem mkO_20 {g : jG} {a : Nat} (h : ¬ mkO g a) : a ≠ 19 ∧ a ≠ 20 ∧ a ≠ 21 ∧ a ≠ 22 ∧ a ≠ 23 := by
  unfold mkO at h
  omega
section CC
variable (d L : Nat) (g : jG)
theorem c_pairs3 {I : Nat → Nat → Int32} {J : Nat → Nat → Int64} {PC PQ m a b out : Nat} {A B : kA} (hm : m < 3) (hI : mkI L g I PC PQ) (hA : cR L g I J a A) (hB : cR L g I J b B) (ho : gK L g out = 2) (hoC : out ≤ g.2.2.2.1) : ∃ I1 J1 J2 g' I' J',
    jcall (d + 2) 33 [.ref 19, .ref a, .ref b, .int (nI m)] (jGs L g, I, J) = some (none, (jGs L g, I1, J1)) ∧ I1 19 5 = nI A.1 ∧ I1 a 2 = nI (kEm A.2.1 A.1) ∧ I1 b 2 = nI (kEm B.2.1 B.1) ∧ jcall (d + 2) 40 [.ref 19, .int (nI (eP A B))] (jGs L g, I1, J1) = some (none, (jGs L g, I1, J2)) ∧ mkI L g' I' PC PQ ∧ fX L g g' I I' J J' out ∧
    ((∃ V, kMk (fun w => mHow m (kL A 0 w) (kL B 0 w)) = some V ∧ cR L g' I' J' out V ∧ jcall (d + 2) 42 [.ref 19, .int (nI (1 ||| 2 ^ A.1)), .ref out] (jGs L g, I1, J2) = some (some (.int (nI 1)), (jGs L g', I', J'))) ∨ (kMk (fun w => mHow m (kL A 0 w) (kL B 0 w)) = none ∧ (I' out = I out ∧ J' out = J out) ∧ jcall (d + 2) 42 [.ref 19, .int (nI (1 ||| 2 ^ A.1)), .ref out] (jGs L g, I1, J2) = some (some (.int (nI 0)), (jGs L g', I', J')))) := by
  have hV := hA.2.1
  have hW := hB.2.1
  obtain ⟨I1, J1, p1, p2, p3, p4⟩ := c_pair d L g hm hA hB
  obtain ⟨J2, s1, s2, s3⟩ := c_signU d L g p3 (eP_lt hV hW)
  have hI1 : mkI L g I1 PC PQ := mkI_cg hI p1.2.1 p1.2.2 p1.1
  obtain ⟨g', I', J', f1, f2, f3⟩ := c_finU d L hI1 s2 (fP_lt hV hW) (sim_P (m := m) hV hW) ho hoC
  have hG : kMk (kG (nxP A B) (enP (mHow m) A B) 0) = kMk (fun w => mHow m (kL A 0 w) (kL B 0 w)) := kMk_cg (fun w hw => kG_P hV.1.1 hW.1.1 hW.2.1 w 0 ⟨hV.1.1.1, hW.1.1.1⟩ hw)
  have h0 : phP A 0 = 1 ||| 2 ^ A.1 := rfl
  rw [hG, h0] at f3
  have ha := kR20 hA.1
  have hb := kR20 hB.1
  have hoo := kR20 ho
  refine ⟨I1, J1, J2, g', I', J', p4, p3.2.1, by rw [p1.1 a ha.1]; exact hA.2.2.2.2.1, by rw [p1.1 b hb.1]; exact hB.2.2.2.2.1, s3, f1, fX_trans (fG_X (fG_same (fun x hx => ?_))) f2, ?_⟩
  · obtain ⟨x1, x2, x3, x4, x5⟩ := mkO_20 hx
    exact ⟨p1.1 x x1, by rw [s1 x x3 x4 x5]; exact p2 x x2⟩
  · rcases f3 with ⟨V, v1, v2, v3⟩ | ⟨v1, v2, v3, v4⟩
    · exact Or.inl ⟨V, v1, v2, v3⟩
    · exact Or.inr ⟨v1, ⟨by rw [v2, p1.1 out hoo.1], by rw [v3, s1 out hoo.2.2.1 hoo.2.2.2.1 hoo.2.2.2.2.1, p2 out hoo.2.1]⟩, v4⟩
end CC
theorem vPair_val {m : Nat} {A B C : kA} (hC : kV C) (h : ∀ w, kW w → kL C 0 w = mHow m (kL A 0 w) (kL B 0 w)) : vPair m A B = C := by
  unfold vPair
  rw [kMk_some hC h, Option.getD_some]
theorem kL_all (w : List Nat) : kL kAll 0 w = true := by
  induction w with
  | nil => rfl
  | cons l w ih => exact ih
theorem kL_no (w : List Nat) : kL kNo 0 w = false := by
  induction w with
  | nil => rfl
  | cons l w ih => exact ih
theorem mHow_0 (a b : Bool) : mHow 0 a b = (a || b) := rfl
theorem mHow_1 (a b : Bool) : mHow 1 a b = (a && b) := rfl
theorem mHow_2 (a b : Bool) : mHow 2 a b = (a && !b) := rfl
/-- an operation's end: a cell set to a value -/
theorem fX_one {L : Nat} {g : jG} {I I' : Nat → Nat → Int32} {J J' : Nat → Nat → Int64} {out : Nat} (h : ∀ x, x ≠ out → I' x = I x ∧ J' x = J x) : fX L g g I I' J J' out := ⟨fun a _ hn => ⟨fun hne => h a hne, hn⟩, fun _ _ => ⟨rfl, rfl⟩, fun _ _ _ _ => rfl, Nat.le_refl _⟩
section CC
variable (d L : Nat) (g : jG)
theorem mkI_out {I I' : Nat → Nat → Int32} {PC PQ out : Nat} (h : mkI L g I PC PQ) (ho : gK L g out = 2) (hI : ∀ x, x ≠ out → I' x = I x) : mkI L g I' PC PQ := by
  obtain ⟨kr, rr, sr, gr, fr, c, base, N, z1, z2, z3, z4, z5, z6, z7, z8⟩ := h
  have n9 : sr ≠ out := ne_K z1.2.2.2.2.2.2.2.1 ho (by omega)
  have n8 : 19 ≠ out := ne_K (gK_19 L g) ho (by omega)
  exact ⟨kr, rr, sr, gr, fr, c, base, N, z1, z2, z3, by rw [hI 19 n8]; exact z4, by rw [hI 19 n8]; exact z5, z6, fun x hx => by rw [hI sr n9]; exact z7 x hx, z8⟩
theorem c_join {I : Nat → Nat → Int32} {J : Nat → Nat → Int64} {PC PQ a b out : Nat} {A B : kA} (hI : mkI L g I PC PQ) (hA : cR L g I J a A) (hB : cR L g I J b B) (ho : gK L g out = 2) (hoC : out ≤ g.2.2.2.1) : ∃ g' I' J', mkI L g' I' PC PQ ∧ fX L g g' I I' J J' out ∧ cR L g' I' J' out (vPair 0 A B) ∧ jcall (d + 3) 30 [.ref 19, .ref a, .ref b, .ref out] (jGs L g, I, J) = some (none, (jGs L g', I', J')) := by
  have hV := hA.2.1
  have hW := hB.2.1
  have k1 : (jGs L g).1 a = 2 := hA.1
  have k2 : (jGs L g).1 b = 2 := hB.1
  have k3 : (jGs L g).1 out = 2 := ho
  have set1 : ∀ (C : kA) (c : Nat), cR L g I J c C → vPair 0 A B = C → ∃ I' J', mkI L g I' PC PQ ∧ fX L g g I I' J J' out ∧ cR L g I' J' out (vPair 0 A B) ∧ jcall (d + 2) 20 [.ref out, .ref c] (jGs L g, I, J) = some (none, (jGs L g, I', J')) := fun C c hc he => by
    obtain ⟨I', J', q1, q2, q3⟩ := c_set (d + 1) L g ho hc
    exact ⟨I', J', mkI_out L g hI ho (fun x hx => (q1 x hx).1), fX_one q1, by rw [he]; exact q2, q3⟩
  by_cases h1 : A = B
  · obtain ⟨I', J', q1, q2, q3, q4⟩ := set1 A a hA (vPair_val hV (fun w _ => by rw [← h1, mHow_0, Bool.or_self]))
    refine ⟨g, I', J', q1, q2, q3, ?_⟩
    rw [c_Maker_join, e_Maker_join_0, if_pos k1, c_isSame (d + 1) L g hA hB, jb_t.mpr h1, jcI_some, e_Maker_join_5, jif_f (by decide), e_Maker_join_22, if_pos k3, q4, jcV_some, e_Maker_join_27, e_Maker_join_97]
  · by_cases h2 : A = kAll
    · obtain ⟨I', J', q1, q2, q3, q4⟩ := set1 A a hA (vPair_val hV (fun w _ => by rw [h2, mHow_0, kL_all, Bool.true_or]))
      refine ⟨g, I', J', q1, q2, q3, ?_⟩
      rw [c_Maker_join, e_Maker_join_0, if_pos k1, c_isSame (d + 1) L g hA hB, jb_f.mpr h1, jcI_some, e_Maker_join_5, jif_t (by decide), if_pos k1, c_isAll (d + 1) L g hA, jb_t.mpr h2, jcI_some, e_Maker_join_12, jif_f (by decide), e_Maker_join_22, if_pos k3, q4, jcV_some, e_Maker_join_27, e_Maker_join_97]
    · by_cases h3 : B = kNo
      · obtain ⟨I', J', q1, q2, q3, q4⟩ := set1 A a hA (vPair_val hV (fun w _ => by rw [h3, mHow_0, kL_no, Bool.or_false]))
        refine ⟨g, I', J', q1, q2, q3, ?_⟩
        rw [c_Maker_join, e_Maker_join_0, if_pos k1, c_isSame (d + 1) L g hA hB, jb_f.mpr h1, jcI_some, e_Maker_join_5, jif_t (by decide), if_pos k1, c_isAll (d + 1) L g hA, jb_f.mpr h2, jcI_some, e_Maker_join_12, jif_t (by decide), if_pos k2, c_isNothing (d + 1) L g hB, jb_t.mpr h3, jcI_some, e_Maker_join_19, jif_f (by decide), e_Maker_join_22, if_pos k3, q4, jcV_some, e_Maker_join_27, e_Maker_join_97]
      · have e19 : jcall (d + 3) 30 [.ref 19, .ref a, .ref b, .ref out] (jGs L g, I, J) = jcI (jcall (d + 2) 24 [.ref b] (jGs L g, I, J)) (fun r2 S1 => jval (d + 2) 30 34 [.ref 19, .ref a, .ref b, .ref out] [.int r2] S1) := by
          rw [c_Maker_join, e_Maker_join_0, if_pos k1, c_isSame (d + 1) L g hA hB, jb_f.mpr h1, jcI_some, e_Maker_join_5, jif_t (by decide), if_pos k1, c_isAll (d + 1) L g hA, jb_f.mpr h2, jcI_some, e_Maker_join_12, jif_t (by decide), if_pos k2, c_isNothing (d + 1) L g hB, jb_f.mpr h3, jcI_some, e_Maker_join_19, jif_t (by decide), if_pos k2]
        by_cases h4 : B = kAll
        · obtain ⟨I', J', q1, q2, q3, q4⟩ := set1 B b hB (vPair_val hW (fun w _ => by rw [h4, mHow_0, kL_all, Bool.or_true]))
          refine ⟨g, I', J', q1, q2, q3, ?_⟩
          rw [e19, c_isAll (d + 1) L g hB, jb_t.mpr h4, jcI_some, e_Maker_join_34, jif_f (by decide), e_Maker_join_44, if_pos k3, q4, jcV_some, e_Maker_join_49, e_Maker_join_97]
        · by_cases h5 : A = kNo
          · obtain ⟨I', J', q1, q2, q3, q4⟩ := set1 B b hB (vPair_val hW (fun w _ => by rw [h5, mHow_0, kL_no, Bool.false_or]))
            refine ⟨g, I', J', q1, q2, q3, ?_⟩
            rw [e19, c_isAll (d + 1) L g hB, jb_f.mpr h4, jcI_some, e_Maker_join_34, jif_t (by decide), if_pos k1, c_isNothing (d + 1) L g hA, jb_t.mpr h5, jcI_some, e_Maker_join_41, jif_f (by decide), e_Maker_join_44, if_pos k3, q4, jcV_some, e_Maker_join_49, e_Maker_join_97]
          · obtain ⟨I1, J1, J2, g', I', J', p1, p2, p3, p4, p5, p6, p7, p8⟩ := c_pairs3 d L g (m := 0) (by omega) hI hA hB ho hoC
            have hA10 := hV.2.1
            have hB10 := kEm_lt10 hW
            have hpw : 2 ^ A.1 ≤ 2 ^ 10 := Nat.pow_le_pow_right (by omega) hA10
            have hmul : kEm B.2.1 B.1 * 2 ^ A.1 ≤ 1023 * 2 ^ 10 := Nat.mul_le_mul (by omega) hpw
            have eE : nI (kEm A.2.1 A.1) ||| (nI (kEm B.2.1 B.1) <<< (nI A.1 &&& 31)) = nI (eP A B) := by
              rw [show (nI (kEm B.2.1 B.1) <<< (nI A.1 &&& 31)) = nI (kEm B.2.1 B.1 * 2 ^ A.1) from zi_shl (by omega) (by omega), zi_or]
              rfl
            have eK : (1 : Int32) ||| ((1 : Int32) <<< (nI A.1 &&& 31)) = nI (1 ||| 2 ^ A.1) := by
              rw [show ((1 : Int32) <<< (nI A.1 &&& 31)) = nI (2 ^ A.1) from nI_pow _ (by omega), show (1 : Int32) = nI 1 from rfl, zi_or]
            have e59 : jcall (d + 3) 30 [.ref 19, .ref a, .ref b, .ref out] (jGs L g, I, J) = jcI (jcall (d + 2) 42 [.ref 19, .int (nI (1 ||| 2 ^ A.1)), .ref out] (jGs L g, I1, J2)) (fun r2 S1 => jval (d + 2) 30 90 [jjunk, jjunk, jjunk, .ref out] [.int r2] S1) := by
              rw [e19, c_isAll (d + 1) L g hB, jb_f.mpr h4, jcI_some, e_Maker_join_34, jif_t (by decide), if_pos k1, c_isNothing (d + 1) L g hA, jb_f.mpr h5, jcI_some, e_Maker_join_41, jif_t (by decide), show (0 : Int32) = nI 0 from rfl, p1, jcV_some, e_Maker_join_59, if_pos k1, if_pos k2, p2, p3, p4, eE, p5, jcV_some, e_Maker_join_77, p2, eK]
            rw [e59]
            have ho' : gK L g' out = 2 := by rw [(p7.2.1 out hoC).1]; exact ho
            have k3' : (jGs L g').1 out = 2 := ho'
            rcases p8 with ⟨V, v1, v2, v3⟩ | ⟨v1, v2, v3⟩
            · refine ⟨g', I', J', p6, p7, ?_, ?_⟩
              · unfold vPair; rw [v1, Option.getD_some]; exact v2
              · rw [v3, jcI_some, e_Maker_join_90, jif_f (by decide), e_Maker_join_97]
            · obtain ⟨I2, J3, q1, q2, q3⟩ := c_makeAll (d + 1) L g' (I := I') (J := J') ho'
              refine ⟨g', I2, J3, mkI_out L g' p6 ho' (fun x hx => (q1 x hx).1), fX_trans p7 (fX_one q1), ?_, ?_⟩
              · unfold vPair; rw [v1]; exact q2
              · rw [v3, jcI_some, e_Maker_join_90, jif_t (by decide), if_pos k3', q3, jcV_some, e_Maker_join_97]
end CC

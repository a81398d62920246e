/-! THE CLASS: chain -/
set_option maxRecDepth 100000
def fC (A B : kA) (q l : Nat) : Nat := if q < A.1 then 2 ^ A.2.2 q l ||| (if A.2.1 (A.2.2 q l) = true then 2 ^ A.1 else 0) else 2 ^ (A.1 + B.2.2 (q - A.1) l)
theorem fC_lt {A B : kA} (hA : kV A) (hB : kV B) (q l : Nat) : fC A B q l < 1048576 := by
  unfold fC
  have h1 := kV_to hA q l
  have h2 := kV_to hB (q - A.1) l
  have h3 := hA.2.1
  split
  · refine Nat.or_lt_two_pow (n := 20) (Nat.pow_lt_pow_right (by omega) (by omega)) ?_
    split
    · exact Nat.pow_lt_pow_right (by omega) (by omega)
    · exact Nat.two_pow_pos _
  · exact Nat.pow_lt_pow_right (n := 20) (by omega) (by omega)
def fCt (A B : kA) (q0 l0 : Nat) (q l : Nat) : Nat := if q < q0 ∨ (q = q0 ∧ l < l0) then fC A B q l else fP A B q l
theorem fCt_lt {A B : kA} (hA : kV A) (hB : kV B) (q0 l0 q l : Nat) : fCt A B q0 l0 q l < 1048576 := by
  unfold fCt
  split
  · exact fC_lt hA hB q l
  · exact fP_lt hA hB q l
theorem fC_bitA {A B : kA} {q l j : Nat} (hq : q < A.1) : (fC A B q l).testBit j = true ↔ j = A.2.2 q l ∨ (A.2.1 (A.2.2 q l) = true ∧ j = A.1) := by
  unfold fC
  rw [if_pos hq, Nat.testBit_or, Nat.testBit_two_pow, Bool.or_eq_true, decide_eq_true_iff]
  by_cases he : A.2.1 (A.2.2 q l) = true
  · rw [if_pos he, Nat.testBit_two_pow, decide_eq_true_iff]
    constructor
    · rintro (h | h)
      · exact Or.inl h.symm
      · exact Or.inr ⟨he, h.symm⟩
    · rintro (h | h)
      · exact Or.inl h.symm
      · exact Or.inr h.2.symm
  · rw [if_neg he, Nat.zero_testBit]
    constructor
    · rintro (h | h)
      · exact Or.inl h.symm
      · cases h
    · rintro (h | h)
      · exact Or.inl h.symm
      · exact absurd h.1 he
theorem fC_bitB {A B : kA} {r l j : Nat} : (fC A B (A.1 + r) l).testBit j = true ↔ j = A.1 + B.2.2 r l := by
  unfold fC
  rw [if_neg (by omega), Nat.add_sub_cancel_left, Nat.testBit_two_pow, decide_eq_true_iff]
  exact ⟨fun h => h.symm, fun h => h.symm⟩
def phC (A : kA) (x : Nat) : Nat := 2 ^ (x / 1024) ||| (x % 1024) * 2 ^ A.1
theorem phC_bit (A : kA) (x q : Nat) : (phC A x).testBit q = true ↔ q = x / 1024 ∨ (A.1 ≤ q ∧ (x % 1024).testBit (q - A.1) = true) := by
  unfold phC
  rw [Nat.testBit_or, Nat.testBit_two_pow, mul_pow_bit, Bool.or_eq_true, Bool.and_eq_true, decide_eq_true_iff, decide_eq_true_iff]
  constructor <;> rintro (h | h) <;> first | exact Or.inl h.symm | exact Or.inr h
theorem and_pos_iff {a b : Nat} : 0 < a &&& b ↔ ∃ r, a.testBit r = true ∧ b.testBit r = true := by
  constructor
  · intro h
    obtain ⟨i, hi⟩ := Nat.exists_testBit_of_ne_zero (x := a &&& b) (by omega)
    have hi' : (a &&& b).testBit i = true := hi
    rw [Nat.testBit_and, Bool.and_eq_true] at hi'
    exact ⟨i, hi'⟩
  · rintro ⟨r, h1, h2⟩
    apply Classical.byContradiction
    intro h0
    have : a &&& b = 0 := by omega
    have h3 : (a &&& b).testBit r = true := by rw [Nat.testBit_and, h1, h2]; rfl
    rw [this, Nat.zero_testBit] at h3
    cases h3
def eC (A B : kA) : Nat := kEm B.2.1 B.1 * 2 ^ A.1
theorem eC_lt {A B : kA} (hA : kV A) (hB : kV B) : eC A B < 1048576 := by
  have h2 := kEm_lt10 hB
  have h3 : 2 ^ A.1 ≤ 2 ^ 10 := Nat.pow_le_pow_right (by omega) hA.2.1
  have h4 : kEm B.2.1 B.1 * 2 ^ A.1 ≤ 1023 * 2 ^ 10 := Nat.mul_le_mul (by omega) h3
  unfold eC
  omega
theorem sim_C {A B : kA} (hA : kV A) (hB : kV B) : mSim (A.1 + B.1) A.1 0 (eC A B) (fC A B) (nxC A B) (enC B) (if A.2.1 0 = true then 1 else 0) (vC A B) (phC A) := by
  have wA := hA.1.1
  have wB := hB.1.1
  have hA10 := hA.2.1
  have hB10 := hB.2.1
  have hp : 2 ^ 1 ≤ 2 ^ B.1 := Nat.pow_le_pow_right (by omega) wB.1
  have hp2 : 2 ^ B.1 ≤ 2 ^ 10 := Nat.pow_le_pow_right (by omega) hB10
  have hA0 := wA.1
  refine ⟨⟨by split <;> omega, by split <;> omega⟩, fun x l hx hl => ?_, fun x hx => ⟨?_, ?_⟩, fun x hx => ?_, Or.inl rfl⟩
  · obtain ⟨v1, v2, v3⟩ := vC_nx wA wB hB10 hx hl
    refine ⟨v1, ?_⟩
    have h1 := hx.1
    have h2 := hx.2
    apply Nat.eq_of_testBit_eq
    intro j
    rw [Bool.eq_iff_iff, phC_bit, v2, v3]
    unfold nxM
    rw [kNr_bit, Nat.testBit_or, Bool.or_eq_true, kMv_bit]
    constructor
    · rintro ⟨q, q1, q2, q3⟩
      rcases (phC_bit A x q).mp q2 with e | ⟨e1, e2⟩
      · subst e
        rcases (fC_bitA h1).mp q3 with e | ⟨e1, e2⟩
        · exact Or.inl e
        · refine Or.inr ⟨by omega, Or.inr ?_⟩
          rw [if_pos e1, e2, Nat.sub_self]; rfl
      · obtain ⟨r, rfl⟩ : ∃ r, q = A.1 + r := ⟨q - A.1, by omega⟩
        rw [Nat.add_sub_cancel_left] at e2
        have := fC_bitB.mp q3
        exact Or.inr ⟨by omega, Or.inl ⟨r, kbit_lt h2 e2, e2, by omega⟩⟩
    · rintro (h | ⟨h3, ⟨r, r1, r2, r3⟩ | h4⟩)
      · exact ⟨x / 1024, by omega, (phC_bit A x _).mpr (Or.inl rfl), (fC_bitA h1).mpr (Or.inl h)⟩
      · exact ⟨A.1 + r, by omega, (phC_bit A x _).mpr (Or.inr ⟨by omega, by rw [Nat.add_sub_cancel_left]; exact r2⟩), fC_bitB.mpr (by omega)⟩
      · by_cases he : A.2.1 (A.2.2 (x / 1024) l) = true
        · rw [if_pos he] at h4
          have h5 : j - A.1 = 0 := by
            apply Classical.byContradiction
            intro hne
            rw [Nat.testBit_lt_two_pow (Nat.lt_of_lt_of_le (show 1 < 2 ^ 1 by decide) (Nat.pow_le_pow_right (by omega) (by omega)))] at h4
            cases h4
          exact ⟨x / 1024, by omega, (phC_bit A x _).mpr (Or.inl rfl), (fC_bitA h1).mpr (Or.inr ⟨he, by omega⟩)⟩
        · rw [if_neg he, Nat.zero_testBit] at h4
          cases h4
  · have := hx.1
    omega
  · have h1 := hx.1
    have h2 := hx.2
    refine Nat.or_lt_two_pow (n := 20) (Nat.pow_lt_pow_right (by omega) (by omega)) ?_
    have h3 : 2 ^ A.1 ≤ 2 ^ 10 := Nat.pow_le_pow_right (by omega) hA10
    have h4 : x % 1024 * 2 ^ A.1 ≤ 1023 * 2 ^ 10 := Nat.mul_le_mul (by omega) h3
    omega
  · have h1 := hx.1
    have h2 := hx.2
    have hE : ∀ q, (eC A B).testBit q = (decide (A.1 ≤ q) && B.2.1 (q - A.1)) := fun q => by
      unfold eC
      rw [mul_pow_bit, kV_end hB]
    unfold enM aK enC
    rw [mHow_0, Bool.eq_iff_iff, Bool.or_eq_true, jb_t, jb_t, decide_eq_true_iff, and_pos_iff]
    constructor
    · rintro (⟨q, q1, q2, q3, q4⟩ | ⟨q, q1, q2, q3, q4⟩)
      · have q5 : (eC A B).testBit q = true := q4
        rw [hE, decide_eq_false (by omega)] at q5
        cases q5
      · have q5 : (eC A B).testBit q = true := q4
        rw [hE, decide_eq_true (by omega), Bool.true_and] at q5
        rcases (phC_bit A x q).mp q3 with e | ⟨e1, e2⟩
        · omega
        · exact ⟨q - A.1, e2, by rw [kV_end hB]; exact q5⟩
    · rintro ⟨r, r1, r2⟩
      rw [kV_end hB] at r2
      have hr := kbit_lt h2 r1
      exact Or.inr ⟨A.1 + r, by omega, by omega, (phC_bit A x _).mpr (Or.inr ⟨by omega, by rw [Nat.add_sub_cancel_left]; exact r1⟩), by show (eC A B).testBit _ = true; rw [hE, decide_eq_true (by omega), Nat.add_sub_cancel_left]; exact r2⟩
/-- what a chain takes -/
theorem kG_C {A B : kA} (hA : kV A) (hB : kV B) : ∀ (w : List Nat) (x : Nat), vC A B x → kW w → (kG (nxC A B) (enC B) x w = true ↔ (∃ r, (x % 1024).testBit r = true ∧ kL B r w = true) ∨ ∃ u v, u ≠ [] ∧ w = u ++ v ∧ kL A (x / 1024) u = true ∧ kL B 0 v = true)
  | [], x, hx, _ => by
    show enC B x = true ↔ _
    unfold enC
    rw [decide_eq_true_iff, and_pos_iff]
    constructor
    · rintro ⟨r, r1, r2⟩
      exact Or.inl ⟨r, r1, by rw [kV_end hB] at r2; exact r2⟩
    · rintro (⟨r, r1, r2⟩ | ⟨u, v, h1, h2, -⟩)
      · exact ⟨r, r1, by rw [kV_end hB]; exact r2⟩
      · exact absurd (List.append_eq_nil_iff.mp h2.symm).1 h1
  | l :: w, x, hx, hw => by
    have hl : l < 3 := hw l List.mem_cons_self
    have hw' : kW w := fun y hy => hw y (List.mem_cons_of_mem _ hy)
    obtain ⟨v1, v2, v3⟩ := vC_nx hA.1.1 hB.1.1 hB.2.1 hx hl
    show kG (nxC A B) (enC B) (nxC A B x l) w = true ↔ _
    rw [kG_C hA hB w _ v1 hw', v2, v3]
    constructor
    · rintro (⟨r, r1, r2⟩ | ⟨u, v, h1, h2, h3, h4⟩)
      · rw [Nat.testBit_or, Bool.or_eq_true, kMv_bit] at r1
        rcases r1 with ⟨s, s1, s2, s3⟩ | r1
        · exact Or.inl ⟨s, s2, by show kL B (B.2.2 s l) w = true; rw [s3]; exact r2⟩
        · by_cases he : A.2.1 (A.2.2 (x / 1024) l) = true
          · rw [if_pos he] at r1
            have : r = 0 := by
              apply Classical.byContradiction
              intro hne
              rw [Nat.testBit_lt_two_pow (Nat.lt_of_lt_of_le (show 1 < 2 ^ 1 by decide) (Nat.pow_le_pow_right (by omega) (by omega)))] at r1
              cases r1
            subst this
            exact Or.inr ⟨[l], w, by simp, rfl, he, r2⟩
          · rw [if_neg he, Nat.zero_testBit] at r1
            cases r1
      · exact Or.inr ⟨l :: u, v, by simp, by rw [h2]; rfl, h3, h4⟩
    · rintro (⟨r, r1, r2⟩ | ⟨u, v, h1, h2, h3, h4⟩)
      · exact Or.inl ⟨B.2.2 r l, by rw [Nat.testBit_or, (kMv_bit _ _ _ _).mpr ⟨r, kbit_lt hx.2 r1, r1, rfl⟩, Bool.true_or], r2⟩
      · cases u with
        | nil => exact absurd rfl h1
        | cons a u =>
          have e1 : l = a := (List.cons.inj h2).1
          have e2 : w = u ++ v := (List.cons.inj h2).2
          subst e1
          by_cases hu : u = []
          · subst hu
            have h3' : A.2.1 (A.2.2 (x / 1024) l) = true := h3
            rw [e2]
            exact Or.inl ⟨0, by rw [if_pos h3', Nat.testBit_or]; simp, h4⟩
          · exact Or.inr ⟨u, v, hu, e2, h3, h4⟩
theorem kG_C0 {A B : kA} (hA : kV A) (hB : kV B) {w : List Nat} (hw : kW w) : kG (nxC A B) (enC B) (if A.2.1 0 = true then 1 else 0) w = true ↔ ∃ u v, w = u ++ v ∧ kL A 0 u = true ∧ kL B 0 v = true := by
  have hv : vC A B (if A.2.1 0 = true then 1 else 0) := (sim_C hA hB).1
  rw [kG_C hA hB w _ hv hw]
  by_cases he : A.2.1 0 = true
  · rw [if_pos he]
    constructor
    · rintro (⟨r, r1, r2⟩ | ⟨u, v, h1, h2, h3, h4⟩)
      · have : r = 0 := by
          apply Classical.byContradiction
          intro hne
          rw [show (1 : Nat) % 1024 = 1 from rfl, Nat.testBit_lt_two_pow (Nat.lt_of_lt_of_le (show 1 < 2 ^ 1 by decide) (Nat.pow_le_pow_right (by omega) (by omega)))] at r1
          cases r1
        subst this
        exact ⟨[], w, rfl, he, r2⟩
      · exact ⟨u, v, h2, h3, h4⟩
    · rintro ⟨u, v, h2, h3, h4⟩
      by_cases hu : u = []
      · subst hu
        exact Or.inl ⟨0, rfl, by rw [h2]; exact h4⟩
      · exact Or.inr ⟨u, v, hu, h2, h3, h4⟩
  · rw [if_neg he]
    constructor
    · rintro (⟨r, r1, r2⟩ | ⟨u, v, h1, h2, h3, h4⟩)
      · rw [show (0 : Nat) % 1024 = 0 from rfl, Nat.zero_testBit] at r1
        cases r1
      · exact ⟨u, v, h2, h3, h4⟩
    · rintro ⟨u, v, h2, h3, h4⟩
      by_cases hu : u = []
      · subst hu
        exact absurd h3 he
      · exact Or.inr ⟨u, v, hu, h2, h3, h4⟩
theorem kL_ep1 : ∀ (w : List Nat), kW w → kL kEp 1 w = false
  | [], _ => rfl
  | l :: w, hw => by
    have hl : l < 3 := hw l List.mem_cons_self
    show kL kEp (if 1 < 2 ∧ l < 3 then 1 else 0) w = false
    rw [if_pos ⟨by omega, hl⟩]
    exact kL_ep1 w (fun x hx => hw x (List.mem_cons_of_mem _ hx))
theorem kL_ep {w : List Nat} (hw : kW w) : kL kEp 0 w = true ↔ w = [] := by
  cases w with
  | nil => exact ⟨fun _ => rfl, fun _ => rfl⟩
  | cons l w =>
    have hl : l < 3 := hw l List.mem_cons_self
    have : kL kEp 0 (l :: w) = kL kEp (if 0 < 2 ∧ l < 3 then 1 else 0) w := rfl
    rw [this, if_pos ⟨by omega, hl⟩, kL_ep1 w (fun x hx => hw x (List.mem_cons_of_mem _ hx))]
    simp
theorem vChain_val {A B C : kA} (hC : kV C) (h : ∀ w, kW w → kL C 0 w = kG (nxC A B) (enC B) (if A.2.1 0 = true then 1 else 0) w) : vChain A B = C := by
  unfold vChain
  rw [kMk_some hC h, Option.getD_some]
theorem kW_appI {u v : List Nat} (h : kW (u ++ v)) : kW u ∧ kW v := ⟨fun x hx => h x (List.mem_append_left _ hx), fun x hx => h x (List.mem_append_right _ hx)⟩
theorem vChain_B {A B : kA} (hA : kV A) (hB : kV B) (h : A = kEp ∨ B = kNo) : vChain A B = B := by
  refine vChain_val hB (fun w hw => ?_)
  rw [Bool.eq_iff_iff, kG_C0 hA hB hw]
  rcases h with h | h
  · subst h
    constructor
    · intro hh
      exact ⟨[], w, rfl, rfl, hh⟩
    · rintro ⟨u, v, h1, h2, h3⟩
      rw [h1] at hw
      have := (kL_ep (kW_appI hw).1).mp h2
      subst this
      rw [h1]; exact h3
  · subst h
    constructor
    · intro hh
      rw [kL_no] at hh; cases hh
    · rintro ⟨u, v, h1, h2, h3⟩
      rw [kL_no] at h3; cases h3
theorem vChain_A {A B : kA} (hA : kV A) (hB : kV B) (h : B = kEp ∨ A = kNo) : vChain A B = A := by
  refine vChain_val hA (fun w hw => ?_)
  rw [Bool.eq_iff_iff, kG_C0 hA hB hw]
  rcases h with h | h
  · subst h
    constructor
    · intro hh
      exact ⟨w, [], (List.append_nil w).symm, hh, rfl⟩
    · rintro ⟨u, v, h1, h2, h3⟩
      rw [h1] at hw
      have := (kL_ep (kW_appI hw).2).mp h3
      subst this
      rw [h1, List.append_nil]; exact h2
  · subst h
    constructor
    · intro hh
      rw [kL_no] at hh; cases hh
    · rintro ⟨u, v, h1, h2, h3⟩
      rw [kL_no] at h2; cases h2
section CC
variable (d L : Nat) (g : jG)
theorem c_chain_70 {I : Nat → Nat → Int32} {q a b out : Nat} {A B : kA} (hV : kV A) (hW : kV B) (hq : q < A.1) : ∀ k l (J : Nat → Nat → Int64), l + k = 3 → cR L g I J a A → mkU I J (A.1 + B.1) A.1 0 (fCt A B q l) → ∃ J', (∀ y, y ≠ 20 → J' y = J y) ∧ mkU I J' (A.1 + B.1) A.1 0 (fCt A B (q + 1) 0) ∧ jval (d + 1) 34 70 [.ref 19, .ref a, .ref b, .ref out, .int (nI (2 ^ A.1)), .int (nI q), .int (nI l)] [] (jGs L g, I, J) = jval (d + 1) 34 58 [.ref 19, .ref a, .ref b, .ref out, .int (nI (2 ^ A.1)), .int (nI (q + 1)), jjunk] [] (jGs L g, I, J') := by
  have hA10 := hV.2.1
  have hB10 := hW.2.1
  intro k
  induction k with
  | zero =>
    intro l J hl hA hU
    have : l = 3 := by omega
    subst this
    refine ⟨J, fun _ _ => rfl, mkU_cg hU (fun q' _ l' hl' => ?_) (fCt_lt hV hW _ _), ?_⟩
    · unfold fCt
      by_cases h : q' ≤ q
      · rw [if_pos (by omega), if_pos (by omega)]
      · rw [if_neg (by omega), if_neg (by omega)]
    · rw [e_Maker_chain_70, jif_t (by decide), nI_1]
  | succ k ih =>
    intro l J hl hA hU
    have hl3 : l < 3 := by omega
    have k1 : (jGs L g).1 a = 2 := hA.1
    have hA20 := (kR20 hA.1).2.1
    have ht := kV_to hV q l
    have start : jval (d + 1) 34 70 [.ref 19, .ref a, .ref b, .ref out, .int (nI (2 ^ A.1)), .int (nI q), .int (nI l)] [] (jGs L g, I, J) = jval (d + 1) 34 88 [.ref 19, .ref a, .ref b, .ref out, .int (nI (2 ^ A.1)), .int (nI q), .int (nI l)] [.int (bI (A.2.1 (A.2.2 q l)))] (jGs L g, I, J) := by
      rw [e_Maker_chain_70, jif_f (show ¬ (3 : Int32) ≤ nI l from nI_ge (a := l) (b := 3) hl3 (by omega)), if_pos k1, c_to d L g hA (by omega) hl3, jcI_some, e_Maker_chain_85, if_pos k1, c_isEnd d L g hA (by omega), jcI_some]
    rw [start, e_Maker_chain_88]
    cases he : A.2.1 (A.2.2 q l)
    · obtain ⟨J', q1, q2, q3⟩ := ih (l + 1) J (by omega) hA (mkU_cg hU (fun q' _ l' _ => by
        unfold fCt
        by_cases hql : q' = q ∧ l' = l
        · obtain ⟨e1, e2⟩ := hql
          subst e1; subst e2
          rw [if_pos (by omega), if_neg (by omega)]
          unfold fC fP
          rw [if_pos hq, if_pos hq, he, if_neg (by decide), Nat.or_zero]
        · by_cases h : q' < q ∨ (q' = q ∧ l' < l)
          · rw [if_pos (by omega), if_pos h]
          · rw [if_neg (by omega), if_neg h]) (fCt_lt hV hW _ _))
      refine ⟨J', q1, q2, ?_⟩
      rw [jif_t (by decide), e_Maker_chain_101, nI_1]
      exact q3
    · have hpw : 2 ^ A.1 < 1048576 := Nat.lt_of_le_of_lt (Nat.pow_le_pow_right (n := 2) (by omega) hA10) (by decide)
      obtain ⟨s1, s2⟩ := c_addStepU d L g hU (show q < A.1 + B.1 by omega) hl3 hpw
      obtain ⟨J', q1, q2, q3⟩ := ih (l + 1) _ (by omega) (cR_cg L g hA rfl rfl (ju_n hA20)) (mkU_cg s1 (fun q' _ l' _ => by
        by_cases hqq : q' = q
        · subst hqq
          rw [jup_s]
          by_cases hll : l' = l
          · subst hll
            rw [jup_s]
            unfold fCt
            rw [if_pos (by omega), if_neg (by omega)]
            unfold fC fP
            rw [if_pos hq, if_pos hq, he, if_pos rfl]
          · rw [jup_n hll]
            unfold fCt
            by_cases h : l' < l
            · rw [if_pos (by omega), if_pos (by omega)]
            · rw [if_neg (by omega), if_neg (by omega)]
        · rw [jup_n hqq]
          unfold fCt
          by_cases h : q' < q
          · rw [if_pos (by omega), if_pos (by omega)]
          · rw [if_neg (by omega), if_neg (by omega)]) (fCt_lt hV hW _ _))
      refine ⟨J', fun y hy => (q1 y hy).trans (ju_n hy), q2, ?_⟩
      rw [jif_f (by decide), s2, jcV_some, e_Maker_chain_101, nI_1]
      exact q3
theorem c_chain_58 {I : Nat → Nat → Int32} {a b out : Nat} {A B : kA} (hV : kV A) (hW : kV B) : ∀ k q (J : Nat → Nat → Int64), q + k = A.1 → cR L g I J a A → mkU I J (A.1 + B.1) A.1 0 (fCt A B q 0) → ∃ J', (∀ y, y ≠ 20 → J' y = J y) ∧ mkU I J' (A.1 + B.1) A.1 0 (fC A B) ∧ jval (d + 1) 34 58 [.ref 19, .ref a, .ref b, .ref out, .int (nI (2 ^ A.1)), .int (nI q), jjunk] [] (jGs L g, I, J) = jval (d + 1) 34 58 [.ref 19, .ref a, .ref b, .ref out, .int (nI (2 ^ A.1)), .int (nI A.1), jjunk] [] (jGs L g, I, J') := by
  have hA10 := hV.2.1
  intro k
  induction k with
  | zero =>
    intro q J hq hA hU
    have : q = A.1 := by omega
    subst this
    refine ⟨J, fun _ _ => rfl, mkU_cg hU (fun q' _ l' _ => ?_) (fC_lt hV hW), rfl⟩
    unfold fCt
    by_cases h : q' < A.1
    · rw [if_pos (by omega)]
    · rw [if_neg (by omega)]
      unfold fC fP
      rw [if_neg h, if_neg h]
  | succ k ih =>
    intro q J hq hA hU
    have k1 : (jGs L g).1 a = 2 := hA.1
    have hA20 := (kR20 hA.1).2.1
    obtain ⟨J1, a1, a2, a3⟩ := c_chain_70 d L g (b := b) (out := out) hV hW (show q < A.1 by omega) 3 0 J (by omega) hA hU
    obtain ⟨J', q1, q2, q3⟩ := ih (q + 1) J1 (by omega) (cR_cg L g hA rfl rfl (a1 a hA20)) a2
    refine ⟨J', fun y hy => (q1 y hy).trans (a1 y hy), q2, ?_⟩
    rw [← q3, ← a3, e_Maker_chain_58, if_pos k1, hA.2.2.2.2.2, jif_f (nI_ge (by omega) (by omega))]
    rfl
theorem c_chain {I : Nat → Nat → Int32} {J : Nat → Nat → Int64} {PC PQ a b out : Nat} {A B : kA} (hI : mkI L g I PC PQ) (hA : cR L g I J a A) (hB : cR L g I J b B) (ho : gK L g out = 2) (hoC : out ≤ g.2.2.2.1) : ∃ g' I' J', mkI L g' I' PC PQ ∧ fX L g g' I I' J J' out ∧ cR L g' I' J' out (vChain A B) ∧ jcall (d + 3) 34 [.ref 19, .ref a, .ref b, .ref out] (jGs L g, I, J) = some (none, (jGs L g', I', J')) := by
  have hV := hA.2.1
  have hW := hB.2.1
  have hA10 := hV.2.1
  have k1 : (jGs L g).1 a = 2 := hA.1
  have k2 : (jGs L g).1 b = 2 := hB.1
  have k3 : (jGs L g).1 out = 2 := ho
  have set1 : ∀ (C : kA) (c : Nat), cR L g I J c C → vChain A B = C → ∃ I' J', mkI L g I' PC PQ ∧ fX L g g I I' J J' out ∧ cR L g I' J' out (vChain A B) ∧ jcall (d + 2) 20 [.ref out, .ref c] (jGs L g, I, J) = some (none, (jGs L g, I', J')) := fun C c hc he => by
    obtain ⟨I', J', q1, q2, q3⟩ := c_set (d + 1) L g ho hc
    exact ⟨I', J', mkI_out L g hI ho (fun x hx => (q1 x hx).1), fX_one q1, by rw [he]; exact q2, q3⟩
  by_cases h1 : A = kEp
  · obtain ⟨I', J', q1, q2, q3, q4⟩ := set1 B b hB (vChain_B hV hW (Or.inl h1))
    refine ⟨g, I', J', q1, q2, q3, ?_⟩
    rw [c_Maker_chain, e_Maker_chain_0, if_pos k1, c_isEmptyText (d + 1) L g hA, jb_t.mpr h1, jcI_some, e_Maker_chain_4, jif_f (by decide), e_Maker_chain_14, if_pos k3, q4, jcV_some, e_Maker_chain_19]
  · by_cases h2 : B = kNo
    · obtain ⟨I', J', q1, q2, q3, q4⟩ := set1 B b hB (vChain_B hV hW (Or.inr h2))
      refine ⟨g, I', J', q1, q2, q3, ?_⟩
      rw [c_Maker_chain, e_Maker_chain_0, if_pos k1, c_isEmptyText (d + 1) L g hA, jb_f.mpr h1, jcI_some, e_Maker_chain_4, jif_t (by decide), if_pos k2, c_isNothing (d + 1) L g hB, jb_t.mpr h2, jcI_some, e_Maker_chain_11, jif_f (by decide), e_Maker_chain_14, if_pos k3, q4, jcV_some, e_Maker_chain_19]
    · have e11 : jcall (d + 3) 34 [.ref 19, .ref a, .ref b, .ref out] (jGs L g, I, J) = jcI (jcall (d + 2) 26 [.ref b] (jGs L g, I, J)) (fun r2 S1 => jval (d + 2) 34 24 [.ref 19, .ref a, .ref b, .ref out, jjunk, jjunk, jjunk] [.int r2] S1) := by
        rw [c_Maker_chain, e_Maker_chain_0, if_pos k1, c_isEmptyText (d + 1) L g hA, jb_f.mpr h1, jcI_some, e_Maker_chain_4, jif_t (by decide), if_pos k2, c_isNothing (d + 1) L g hB, jb_f.mpr h2, jcI_some, e_Maker_chain_11, jif_t (by decide), if_pos k2]
      by_cases h3 : B = kEp
      · obtain ⟨I', J', q1, q2, q3, q4⟩ := set1 A a hA (vChain_A hV hW (Or.inl h3))
        refine ⟨g, I', J', q1, q2, q3, ?_⟩
        rw [e11, c_isEmptyText (d + 1) L g hB, jb_t.mpr h3, jcI_some, e_Maker_chain_24, jif_f (by decide), e_Maker_chain_34, if_pos k3, q4, jcV_some, e_Maker_chain_39]
      · by_cases h4 : A = kNo
        · obtain ⟨I', J', q1, q2, q3, q4⟩ := set1 A a hA (vChain_A hV hW (Or.inr h4))
          refine ⟨g, I', J', q1, q2, q3, ?_⟩
          rw [e11, c_isEmptyText (d + 1) L g hB, jb_f.mpr h3, jcI_some, e_Maker_chain_24, jif_t (by decide), if_pos k1, c_isNothing (d + 1) L g hA, jb_t.mpr h4, jcI_some, e_Maker_chain_31, jif_f (by decide), e_Maker_chain_34, if_pos k3, q4, jcV_some, e_Maker_chain_39]
        · obtain ⟨I1, J1, p1, p2, p3, p4⟩ := c_pair d L g (m := 0) (by omega) hA hB
          have ha := kR20 hA.1
          have hb := kR20 hB.1
          have hoo := kR20 ho
          have hA1 : cR L g I1 J1 a A := cR_cg L g hA rfl (p1.1 a ha.1) (p2 a ha.2.1)
          obtain ⟨J2, r1, r2, r3⟩ := c_chain_58 (d + 1) L g (b := b) (out := out) hV hW A.1 0 J1 (by omega) hA1 (mkU_cg p3 (fun q _ l _ => by unfold fCt; rw [if_neg (by omega)]) (fCt_lt hV hW _ _))
          obtain ⟨J3, s1, s2, s3⟩ := c_signU d L g r2 (eC_lt hV hW)
          have hA3 : cR L g I1 J3 a A := cR_cg L g hA1 rfl rfl (by rw [s1 a ha.2.2.1 ha.2.2.2.1 ha.2.2.2.2.1, r1 a ha.2.1])
          have hI1 : mkI L g I1 PC PQ := mkI_cg hI p1.2.1 p1.2.2 p1.1
          obtain ⟨g', I', J', f1, f2, f3⟩ := c_finU d L hI1 s2 (fC_lt hV hW) (sim_C hV hW) ho hoC
          have hf : fX L g g' I I' J J' out := fX_trans (fG_X (fG_same (fun x hx => by
            obtain ⟨x1, x2, x3, x4, x5⟩ := mkO_20 hx
            exact ⟨p1.1 x x1, by rw [s1 x x3 x4 x5, r1 x x2]; exact p2 x x2⟩))) f2
          have hB10 := kEm_lt10 hW
          have hpw : 2 ^ A.1 ≤ 2 ^ 10 := Nat.pow_le_pow_right (by omega) hA10
          have hmul : kEm B.2.1 B.1 * 2 ^ A.1 ≤ 1023 * 2 ^ 10 := Nat.mul_le_mul (by omega) hpw
          have ib : I1 b 2 = nI (kEm B.2.1 B.1) := by rw [p1.1 b hb.1]; exact hB.2.2.2.2.1
          have eE : nI (kEm B.2.1 B.1) <<< (nI A.1 &&& 31) = nI (eC A B) := zi_shl (by omega) (by omega)
          have eO : (1 : Int32) <<< (nI A.1 &&& 31) = nI (2 ^ A.1) := nI_pow _ (by omega)
          have eK : jval (d + 2) 34 132 [jjunk, jjunk, jjunk, .ref out, .int (nI (2 ^ A.1)), jjunk, jjunk] [.int (bI (A.2.1 0)), .ref 19] (jGs L g, I1, J3) = jval (d + 2) 34 143 [jjunk, jjunk, jjunk, .ref out, jjunk, jjunk, jjunk] [.int (nI (phC A (if A.2.1 0 = true then 1 else 0))), .ref 19] (jGs L g, I1, J3) := by
            rw [e_Maker_chain_132]
            cases he : A.2.1 0
            · rw [jif_t (by decide), if_neg (by decide), show phC A 0 = 1 by unfold phC; simp]
              rfl
            · rw [jif_f (by decide), if_pos rfl, show phC A 1 = 1 ||| 2 ^ A.1 by unfold phC; simp, show (1 : Int32) = nI 1 from rfl, zi_or]
          have e47 : jcall (d + 3) 34 [.ref 19, .ref a, .ref b, .ref out] (jGs L g, I, J) = jcI (jcall (d + 2) 42 [.ref 19, .int (nI (phC A (if A.2.1 0 = true then 1 else 0))), .ref out] (jGs L g, I1, J3)) (fun r2 S1 => jval (d + 2) 34 147 [jjunk, jjunk, jjunk, .ref out, jjunk, jjunk, jjunk] [.int r2] S1) := by
            rw [e11, c_isEmptyText (d + 1) L g hB, jb_f.mpr h3, jcI_some, e_Maker_chain_24, jif_t (by decide), if_pos k1, c_isNothing (d + 1) L g hA, jb_f.mpr h4, jcI_some, e_Maker_chain_31, jif_t (by decide), show (0 : Int32) = nI 0 from rfl, p4, jcV_some, e_Maker_chain_47, p3.2.1, eO, show (0 : Int32) = nI 0 from rfl, r3, e_Maker_chain_58, if_pos k1, hA1.2.2.2.2.2, jif_t (nI_le (Nat.le_refl _) (by omega)), if_pos k2, ib, p3.2.1, eE, s3, jcV_some, e_Maker_chain_126, if_pos k1, show (0 : Int32) = nI 0 from rfl, c_isEnd (d + 1) L g hA3 (by omega), jcI_some, eK, e_Maker_chain_143]
          rw [e47]
          have ho' : gK L g' out = 2 := by rw [(hf.2.1 out hoC).1]; exact ho
          have k3' : (jGs L g').1 out = 2 := ho'
          rcases f3 with ⟨V, v1, v2, v3⟩ | ⟨v1, v2, v3, v4⟩
          · refine ⟨g', I', J', f1, hf, ?_, ?_⟩
            · unfold vChain; rw [v1, Option.getD_some]; exact v2
            · rw [v3, jcI_some, e_Maker_chain_147, jif_f (by decide), e_Maker_chain_154]
          · obtain ⟨I2, J4, q1, q2, q3⟩ := c_makeAll (d + 1) L g' (I := I') (J := J') ho'
            refine ⟨g', I2, J4, mkI_out L g' f1 ho' (fun x hx => (q1 x hx).1), fX_trans hf (fX_one q1), ?_, ?_⟩
            · unfold vChain; rw [v1]; exact q2
            · rw [v4, jcI_some, e_Maker_chain_147, jif_t (by decide), if_pos k3', q3, jcV_some, e_Maker_chain_154]
end CC

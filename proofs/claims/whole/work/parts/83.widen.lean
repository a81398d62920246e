/-! THE CLASS: widen -/
set_option maxRecDepth 100000
/-- the short texts of a state -/
def kdo (A : kA) (r : Nat) : Nat → Nat
  | 0 => if A.2.1 r = true then 1 else 0
  | l + 1 => kdo A r l ||| (if A.2.1 (A.2.2 r l) = true then 2 ^ (l + 1) else 0)
def kdN (A : kA) (w r : Nat) : Nat := if w = 0 then kdo A r 0 else kdo A r 3
theorem kdo_lt (A : kA) (r : Nat) : ∀ l, kdo A r l < 2 ^ (l + 1)
  | 0 => by
    show (if A.2.1 r = true then 1 else 0) < 2
    split <;> omega
  | l + 1 => by
    refine Nat.or_lt_two_pow (Nat.lt_of_lt_of_le (kdo_lt A r l) (Nat.pow_le_pow_right (by omega) (by omega))) ?_
    split
    · exact Nat.pow_lt_pow_right (by omega) (by omega)
    · exact Nat.two_pow_pos _
theorem kdo_bit0 (A : kA) (r : Nat) : ∀ l, (kdo A r l).testBit 0 = A.2.1 r
  | 0 => by
    show (if A.2.1 r = true then 1 else 0 : Nat).testBit 0 = _
    cases A.2.1 r <;> rfl
  | l + 1 => by
    show (kdo A r l ||| (if A.2.1 (A.2.2 r l) = true then 2 ^ (l + 1) else 0)).testBit 0 = _
    rw [Nat.testBit_or, kdo_bit0 A r l]
    split
    · rw [Nat.testBit_two_pow_of_ne (by omega), Bool.or_false]
    · rw [Nat.zero_testBit, Bool.or_false]
theorem kdo_bit (A : kA) (r : Nat) : ∀ l i, i < l → (kdo A r l).testBit (i + 1) = A.2.1 (A.2.2 r i)
  | 0, i, h => absurd h (by omega)
  | l + 1, i, h => by
    show (kdo A r l ||| (if A.2.1 (A.2.2 r l) = true then 2 ^ (l + 1) else 0)).testBit (i + 1) = _
    rw [Nat.testBit_or]
    by_cases hi : i = l
    · subst hi
      rw [Nat.testBit_lt_two_pow (kdo_lt A r i), Bool.false_or]
      cases A.2.1 (A.2.2 r i)
      · rw [if_neg (by decide), Nat.zero_testBit]
      · rw [if_pos rfl, Nat.testBit_two_pow_self]
    · rw [kdo_bit A r l i (by omega)]
      split
      · rw [Nat.testBit_two_pow_of_ne (by omega), Bool.or_false]
      · rw [Nat.zero_testBit, Bool.or_false]
theorem kdN_lt (A : kA) (w r : Nat) : kdN A w r < 16 := by
  unfold kdN
  split
  · have := kdo_lt A r 0; omega
  · have := kdo_lt A r 3; omega
theorem kdN_near {A : kA} {w r q : Nat} : kdN A w r = kdN A w q ↔ nearB A w r q = true := by
  unfold kdN nearB
  by_cases hw : w = 0
  · subst hw
    rw [if_pos rfl, if_pos rfl]
    show (if A.2.1 r = true then 1 else 0) = (if A.2.1 q = true then 1 else 0) ↔ _
    cases A.2.1 r <;> cases A.2.1 q <;> simp
  · rw [if_neg hw, if_neg hw, show (w == 0) = false from beq_false_of_ne hw, Bool.false_or, Bool.and_eq_true, Bool.and_eq_true, Bool.and_eq_true, beq_iff_eq, beq_iff_eq, beq_iff_eq, beq_iff_eq]
    constructor
    · intro h
      have h0 := kdo_bit0 A r 3
      have g0 := kdo_bit0 A q 3
      have h1 := kdo_bit A r 3 0 (by omega)
      have g1 := kdo_bit A q 3 0 (by omega)
      have h2 := kdo_bit A r 3 1 (by omega)
      have g2 := kdo_bit A q 3 1 (by omega)
      have h3 := kdo_bit A r 3 2 (by omega)
      have g3 := kdo_bit A q 3 2 (by omega)
      rw [h] at h0 h1 h2 h3
      exact ⟨h0.symm.trans g0, ⟨h1.symm.trans g1, h2.symm.trans g2⟩, h3.symm.trans g3⟩
    · rintro ⟨h0, ⟨h1, h2⟩, h3⟩
      show kdo A r 3 = kdo A q 3
      unfold kdo kdo kdo kdo
      rw [h0, h1, h2, h3]
theorem nearB_rfl (A : kA) (w r : Nat) : nearB A w r r = true := kdN_near.mp rfl
theorem nearM_bit {A : kA} {w r j : Nat} : (nearM A w r).testBit j = true ↔ j < A.1 ∧ kdN A w r = kdN A w j := by
  unfold nearM
  rw [kEm_bit, Bool.and_eq_true, decide_eq_true_iff, kdN_near]
def fWo (A : kA) (ν : Nat → Nat) (c l : Nat) : Nat → Nat
  | 0 => 0
  | r + 1 => fWo A ν c l r ||| (if ν r = c then 2 ^ ν (A.2.2 r l) else 0)
theorem fWo_bit (A : kA) (ν : Nat → Nat) (c l j : Nat) : ∀ n, (fWo A ν c l n).testBit j = true ↔ ∃ r, r < n ∧ ν r = c ∧ ν (A.2.2 r l) = j
  | 0 => by
    show (0 : Nat).testBit j = true ↔ _
    simp
  | n + 1 => by
    show (fWo A ν c l n ||| (if ν n = c then 2 ^ ν (A.2.2 n l) else 0)).testBit j = true ↔ _
    rw [Nat.testBit_or, Bool.or_eq_true, fWo_bit A ν c l j n]
    constructor
    · rintro (⟨r, h1, h2, h3⟩ | h)
      · exact ⟨r, by omega, h2, h3⟩
      · by_cases hc : ν n = c
        · rw [if_pos hc, Nat.testBit_two_pow, decide_eq_true_iff] at h
          exact ⟨n, by omega, hc, h⟩
        · rw [if_neg hc, Nat.zero_testBit] at h
          cases h
    · rintro ⟨r, h1, h2, h3⟩
      by_cases hr : r = n
      · subst hr
        exact Or.inr (by rw [if_pos h2, Nat.testBit_two_pow, decide_eq_true_iff]; exact h3)
      · exact Or.inl ⟨r, by omega, h2, h3⟩
theorem fWo_lt {A : kA} {ν : Nat → Nat} (hν : ∀ r, ν r < 20) (c l : Nat) : ∀ n, fWo A ν c l n < 1048576
  | 0 => by show 0 < 1048576; omega
  | n + 1 => by
    refine Nat.or_lt_two_pow (n := 20) (fWo_lt hν c l n) ?_
    split
    · exact Nat.pow_lt_pow_right (by omega) (hν _)
    · exact Nat.two_pow_pos _
def eW (A : kA) (ν : Nat → Nat) : Nat → Nat
  | 0 => 0
  | r + 1 => eW A ν r ||| (if A.2.1 r = true then 2 ^ ν r else 0)
theorem eW_bit (A : kA) (ν : Nat → Nat) (j : Nat) : ∀ n, (eW A ν n).testBit j = true ↔ ∃ r, r < n ∧ A.2.1 r = true ∧ ν r = j
  | 0 => by
    show (0 : Nat).testBit j = true ↔ _
    simp
  | n + 1 => by
    show (eW A ν n ||| (if A.2.1 n = true then 2 ^ ν n else 0)).testBit j = true ↔ _
    rw [Nat.testBit_or, Bool.or_eq_true, eW_bit A ν j n]
    constructor
    · rintro (⟨r, h1, h2, h3⟩ | h)
      · exact ⟨r, by omega, h2, h3⟩
      · by_cases hc : A.2.1 n = true
        · rw [if_pos hc, Nat.testBit_two_pow, decide_eq_true_iff] at h
          exact ⟨n, by omega, hc, h⟩
        · rw [if_neg hc, Nat.zero_testBit] at h
          cases h
    · rintro ⟨r, h1, h2, h3⟩
      by_cases hr : r = n
      · subst hr
        exact Or.inr (by rw [if_pos h2, Nat.testBit_two_pow, decide_eq_true_iff]; exact h3)
      · exact Or.inl ⟨r, by omega, h2, h3⟩
theorem eW_lt {A : kA} {ν : Nat → Nat} (hν : ∀ r, ν r < 20) : ∀ n, eW A ν n < 1048576
  | 0 => by show 0 < 1048576; omega
  | n + 1 => by
    refine Nat.or_lt_two_pow (n := 20) (eW_lt hν n) ?_
    split
    · exact Nat.pow_lt_pow_right (by omega) (hν _)
    · exact Nat.two_pow_pos _
/-- saturated sets of states -/
def satW (A : kA) (w x : Nat) : Prop := x < 2 ^ A.1 ∧ ∀ r, r < A.1 → ∀ q, q < A.1 → x.testBit r = true → kdN A w r = kdN A w q → x.testBit q = true
theorem sim_W {A : kA} (hA : kV A) {w G : Nat} {σ ν : Nat → Nat} (hn : nmb (kdN A w) A.1 G σ ν) : mSim G G 0 (eW A ν A.1) (fun c l => fWo A ν c l A.1) (nxW A (nearM A w)) (enE A) (kNr (nearM A w) 1 A.1) (satW A w) (fun x => kMv ν x A.1) ∧ kMv ν (kNr (nearM A w) 1 A.1) A.1 = 1 := by
  have wA := hA.1.1
  have hA10 := hA.2.1
  have hG : G ≤ 10 := by
    apply Classical.byContradiction
    intro hgt
    have hex : ∀ a, ∃ k, a < G → k < A.1 ∧ ν k = a := fun a => by
      by_cases ha : a < G
      · obtain ⟨k, k1, k2, -⟩ := hn.2.2 a ha
        exact ⟨k, fun _ => ⟨k1, k2⟩⟩
      · exact ⟨0, fun h => absurd h ha⟩
    obtain ⟨r, hr⟩ := Classical.axiomOfChoice hex
    obtain ⟨i, j, h1, h2, h3⟩ := kPigeon 10 r (fun a ha => by have := (hr a (by omega)).1; omega)
    have e1 := (hr i (by omega)).2
    have e2 := (hr j (by omega)).2
    rw [h3] at e1
    omega
  have hiff : ∀ r, r < A.1 → ∀ q, q < A.1 → (ν r = ν q ↔ kdN A w r = kdN A w q) := fun r hr q hq => nmb_iff hn hr hq
  have hν : ∀ r, r < A.1 → ν r < G := fun r hr => (hn.2.1 r hr).1
  have hsat : ∀ m, satW A w (kNr (nearM A w) m A.1) := fun m => by
    refine ⟨kNr_lt (fun r _ => kEm_lt _ _), fun r hr q hq h1 h2 => ?_⟩
    rw [kNr_bit] at h1 ⊢
    obtain ⟨s, s1, s2, s3⟩ := h1
    rw [nearM_bit] at s3
    exact ⟨s, s1, s2, nearM_bit.mpr ⟨hq, s3.2.trans h2⟩⟩
  have hp10 : 2 ^ A.1 ≤ 2 ^ 10 := Nat.pow_le_pow_right (by omega) hA10
  refine ⟨⟨hsat 1, fun x l hx hl => ⟨hsat _, ?_⟩, fun x hx => ⟨?_, ?_⟩, fun x hx => ?_, Or.inl rfl⟩, ?_⟩
  · apply Nat.eq_of_testBit_eq
    intro j
    unfold nxM nxW
    rw [Bool.eq_iff_iff, kNr_bit, kMv_bit]
    constructor
    · rintro ⟨c, c1, c2, c3⟩
      obtain ⟨r, r1, r2, r3⟩ := (kMv_bit _ _ _ _).mp c2
      obtain ⟨q, q1, q2, q3⟩ := (fWo_bit A ν c l j A.1).mp c3
      have hxq := hx.2 r r1 q q1 r2 ((hiff r r1 q q1).mp (r3.trans q2.symm))
      have ht := wA.2 q q1 l hl
      exact ⟨A.2.2 q l, ht, (kNr_bit _ _ _ _).mpr ⟨A.2.2 q l, ht, (kMv_bit _ _ _ _).mpr ⟨q, q1, hxq, rfl⟩, nearM_bit.mpr ⟨ht, rfl⟩⟩, q3⟩
    · rintro ⟨s, s1, s2, s3⟩
      obtain ⟨t, t1, t2, t3⟩ := (kNr_bit _ _ _ _).mp s2
      obtain ⟨q, q1, q2, q3⟩ := (kMv_bit _ _ _ _).mp t2
      have h4 := (nearM_bit.mp t3).2
      refine ⟨ν q, hν q q1, (kMv_bit _ _ _ _).mpr ⟨q, q1, q2, rfl⟩, (fWo_bit A ν (ν q) l j A.1).mpr ⟨q, q1, rfl, ?_⟩⟩
      have h5 := (hiff t t1 s s1).mpr h4
      have h6 : A.2.2 q l = t := q3
      rw [h6, h5]; exact s3
  · have := hx.1
    omega
  · have h : kMv ν x A.1 < 2 ^ G := kMv_lt (fun r hr => hν r hr)
    have : 2 ^ G ≤ 2 ^ 10 := Nat.pow_le_pow_right (by omega) hG
    show kMv ν x A.1 < 1048576
    omega
  · unfold enM aK enE
    rw [mHow_0, Bool.eq_iff_iff, Bool.or_eq_true, jb_t, jb_t, decide_eq_true_iff, and_pos_iff]
    constructor
    · have key : (∃ c, c < G ∧ (kMv ν x A.1).testBit c = true ∧ (eW A ν A.1).testBit c = true) → ∃ r, x.testBit r = true ∧ (kEm A.2.1 A.1).testBit r = true := by
        rintro ⟨c, c1, c2, c3⟩
        obtain ⟨r, r1, r2, r3⟩ := (kMv_bit _ _ _ _).mp c2
        obtain ⟨q, q1, q2, q3⟩ := (eW_bit A ν c A.1).mp c3
        exact ⟨q, hx.2 r r1 q q1 r2 ((hiff r r1 q q1).mp (r3.trans q3.symm)), by rw [kV_end hA]; exact q2⟩
      rintro (⟨q, q1, q2, q3, q4⟩ | ⟨q, q1, q2, q3, q4⟩)
      · exact key ⟨q, q1, q3, q4⟩
      · exact key ⟨q, q1, q3, q4⟩
    · rintro ⟨r, r1, r2⟩
      have hr := kbit_lt hx.1 r1
      rw [kV_end hA] at r2
      exact Or.inl ⟨ν r, hν r hr, hν r hr, (kMv_bit _ _ _ _).mpr ⟨r, hr, r1, rfl⟩, (eW_bit A ν (ν r) A.1).mpr ⟨r, hr, r2, rfl⟩⟩
  · have h0 : ν 0 = 0 := by
      obtain ⟨k, k1, k2, k3⟩ := hn.2.2 0 (by have := hν 0 wA.1; omega)
      by_cases hk : k = 0
      · subst hk; exact k2
      · have := k3 0 (by omega); omega
    apply Nat.eq_of_testBit_eq
    intro j
    rw [Bool.eq_iff_iff, kMv_bit]
    constructor
    · rintro ⟨s, s1, s2, s3⟩
      obtain ⟨t, t1, t2, t3⟩ := (kNr_bit _ _ _ _).mp s2
      have ht : t = 0 := by
        apply Classical.byContradiction
        intro hne
        rw [Nat.testBit_lt_two_pow (Nat.lt_of_lt_of_le (show 1 < 2 ^ 1 by decide) (Nat.pow_le_pow_right (by omega) (by omega)))] at t2
        cases t2
      subst ht
      have h5 := (hiff 0 t1 s s1).mpr (nearM_bit.mp t3).2
      rw [← s3, ← h5, h0]; rfl
    · intro h
      have hj : j = 0 := by
        apply Classical.byContradiction
        intro hne
        rw [Nat.testBit_lt_two_pow (Nat.lt_of_lt_of_le (show 1 < 2 ^ 1 by decide) (Nat.pow_le_pow_right (by omega) (by omega)))] at h
        cases h
      exact ⟨0, wA.1, (kNr_bit _ _ _ _).mpr ⟨0, wA.1, rfl, nearM_bit.mpr ⟨wA.1, rfl⟩⟩, h0.trans hj.symm⟩
/-- no two states are similar: nothing changes -/
theorem vWid_same {A : kA} (hA : kV A) {w : Nat} (hd : ∀ r, r < A.1 → ∀ q, q < A.1 → kdN A w r = kdN A w q → r = q) : vWid A w = A := by
  have wA := hA.1.1
  unfold vWid
  have hone : ∀ r, r < A.1 → kNr (nearM A w) (2 ^ r) A.1 = 2 ^ r := fun r hr => by
    apply Nat.eq_of_testBit_eq
    intro j
    rw [Bool.eq_iff_iff, kNr_bit, Nat.testBit_two_pow, decide_eq_true_iff]
    constructor
    · rintro ⟨t, t1, t2, t3⟩
      rw [Nat.testBit_two_pow, decide_eq_true_iff] at t2
      have h := nearM_bit.mp t3
      rw [t2]
      exact hd t t1 j h.1 h.2
    · intro h
      exact ⟨r, hr, by rw [Nat.testBit_two_pow_self], nearM_bit.mpr ⟨by omega, by rw [h]⟩⟩
  have h0 := hone 0 wA.1
  rw [Nat.pow_zero] at h0
  rw [h0, kMk_some hA, Option.getD_some]
  intro u hu
  have hk : ∀ (w' : List Nat) (x : Nat), kG (fun x l => A.2.2 x l) (fun x => A.2.1 x) x w' = kL A x w' := by
    intro w'
    induction w' with
    | nil => intro x; rfl
    | cons l w' ih => intro x; exact ih _
  have hs := m_sim (nx := nxW A (nearM A w)) (en := enE A) (P := fun x => x < A.1) (φ := fun x => 2 ^ x) (nxr := fun x l => A.2.2 x l) (enr := fun x => A.2.1 x) (fun x l hx hl => ⟨wA.2 x hx l hl, by
    show nxW A (nearM A w) (2 ^ x) l = 2 ^ A.2.2 x l
    unfold nxW
    have hm : kMv (fun r => A.2.2 r l) (2 ^ x) A.1 = 2 ^ A.2.2 x l := by
      apply Nat.eq_of_testBit_eq
      intro j
      rw [Bool.eq_iff_iff, kMv_bit, Nat.testBit_two_pow, decide_eq_true_iff]
      constructor
      · rintro ⟨r, r1, r2, r3⟩
        rw [Nat.testBit_two_pow, decide_eq_true_iff] at r2
        subst r2; exact r3
      · intro h
        exact ⟨x, hx, by rw [Nat.testBit_two_pow_self], h⟩
    rw [hm, hone _ (wA.2 x hx l hl)]⟩) (fun x hx => by
    show enE A (2 ^ x) = A.2.1 x
    unfold enE
    rw [Bool.eq_iff_iff, decide_eq_true_iff, and_pos_iff]
    constructor
    · rintro ⟨r, r1, r2⟩
      rw [Nat.testBit_two_pow, decide_eq_true_iff] at r1
      rw [kV_end hA] at r2
      rw [r1]; exact r2
    · intro h
      exact ⟨x, by rw [Nat.testBit_two_pow_self], by rw [kV_end hA]; exact h⟩) u 0 wA.1 hu
  rw [hk] at hs
  exact hs.symm

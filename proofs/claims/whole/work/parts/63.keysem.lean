/-! THE CLASS: machines of nodes; what a set of nodes takes, and what its sign tells -/
set_option maxRecDepth 100000
/-- from a node on -/
noncomputable def aq (n : Nat) (T : Nat → Nat → Nat) (E : Nat) : Nat → List Nat → Bool
  | q, [] => E.testBit q
  | q, l :: w => jb (∃ q', q' < n ∧ (T q l).testBit q' = true ∧ aq n T E q' w = true)
/-- from a set of nodes on: those below s, those from s on, joined as m tells -/
noncomputable def aK (n s m : Nat) (T : Nat → Nat → Nat) (E key : Nat) (w : List Nat) : Bool := mHow m (jb (∃ q, q < n ∧ q < s ∧ key.testBit q = true ∧ aq n T E q w = true)) (jb (∃ q, q < n ∧ ¬ q < s ∧ key.testBit q = true ∧ aq n T E q w = true))
def nxM (n : Nat) (T : Nat → Nat → Nat) (key l : Nat) : Nat := kNr (fun q => T q l) key n
noncomputable def enM (n s m : Nat) (T : Nat → Nat → Nat) (E key : Nat) : Bool := aK n s m T E key []
/-- steps stay below s or from s on -/
def kSp (n s m : Nat) (T : Nat → Nat → Nat) : Prop := m = 0 ∨ ∀ q, q < n → ∀ l, l < 3 → ∀ q', q' < n → (T q l).testBit q' = true → (q' < s ↔ q < s)
theorem aK_step {n s m : Nat} {T : Nat → Nat → Nat} {E key l : Nat} {w : List Nat} (h : kSp n s m T) (hl : l < 3) : aK n s m T E (nxM n T key l) w = aK n s m T E key (l :: w) := by
  have hb : ∀ q', (nxM n T key l).testBit q' = true ↔ ∃ q, q < n ∧ key.testBit q = true ∧ (T q l).testBit q' = true := fun q' => kNr_bit _ _ _ _
  unfold aK
  rcases h with h0 | hs
  · subst h0
    show (_ || _) = (_ || _)
    rw [Bool.eq_iff_iff, Bool.or_eq_true, Bool.or_eq_true, jb_t, jb_t, jb_t, jb_t]
    constructor
    · have key' : (∃ q', q' < n ∧ (nxM n T key l).testBit q' = true ∧ aq n T E q' w = true) → (∃ q, q < n ∧ q < s ∧ key.testBit q = true ∧ aq n T E q (l :: w) = true) ∨ ∃ q, q < n ∧ ¬ q < s ∧ key.testBit q = true ∧ aq n T E q (l :: w) = true := by
        rintro ⟨q', h1, h2, h3⟩
        obtain ⟨q, g1, g2, g3⟩ := (hb q').mp h2
        have h4 : aq n T E q (l :: w) = true := jb_t.mpr ⟨q', h1, g3, h3⟩
        by_cases hq : q < s
        · exact Or.inl ⟨q, g1, hq, g2, h4⟩
        · exact Or.inr ⟨q, g1, hq, g2, h4⟩
      rintro (⟨q', h1, -, h2, h3⟩ | ⟨q', h1, -, h2, h3⟩)
      · exact key' ⟨q', h1, h2, h3⟩
      · exact key' ⟨q', h1, h2, h3⟩
    · have key' : (∃ q, q < n ∧ key.testBit q = true ∧ aq n T E q (l :: w) = true) → (∃ q', q' < n ∧ q' < s ∧ (nxM n T key l).testBit q' = true ∧ aq n T E q' w = true) ∨ ∃ q', q' < n ∧ ¬ q' < s ∧ (nxM n T key l).testBit q' = true ∧ aq n T E q' w = true := by
        rintro ⟨q, h1, h2, h3⟩
        obtain ⟨q', g1, g2, g3⟩ := jb_t.mp h3
        have h4 := (hb q').mpr ⟨q, h1, h2, g2⟩
        by_cases hq : q' < s
        · exact Or.inl ⟨q', g1, hq, h4, g3⟩
        · exact Or.inr ⟨q', g1, hq, h4, g3⟩
      rintro (⟨q', h1, -, h2, h3⟩ | ⟨q', h1, -, h2, h3⟩)
      · exact key' ⟨q', h1, h2, h3⟩
      · exact key' ⟨q', h1, h2, h3⟩
  · have e1 : jb (∃ q, q < n ∧ q < s ∧ (nxM n T key l).testBit q = true ∧ aq n T E q w = true) = jb (∃ q, q < n ∧ q < s ∧ key.testBit q = true ∧ aq n T E q (l :: w) = true) := by
      rw [Bool.eq_iff_iff, jb_t, jb_t]
      constructor
      · rintro ⟨q', h1, h2, h3, h4⟩
        obtain ⟨q, g1, g2, g3⟩ := (hb q').mp h3
        exact ⟨q, g1, (hs q g1 l hl q' h1 g3).mp h2, g2, jb_t.mpr ⟨q', h1, g3, h4⟩⟩
      · rintro ⟨q, h1, h2, h3, h4⟩
        obtain ⟨q', g1, g2, g3⟩ := jb_t.mp h4
        exact ⟨q', g1, (hs q h1 l hl q' g1 g2).mpr h2, (hb q').mpr ⟨q, h1, h3, g2⟩, g3⟩
    have e2 : jb (∃ q, q < n ∧ ¬ q < s ∧ (nxM n T key l).testBit q = true ∧ aq n T E q w = true) = jb (∃ q, q < n ∧ ¬ q < s ∧ key.testBit q = true ∧ aq n T E q (l :: w) = true) := by
      rw [Bool.eq_iff_iff, jb_t, jb_t]
      constructor
      · rintro ⟨q', h1, h2, h3, h4⟩
        obtain ⟨q, g1, g2, g3⟩ := (hb q').mp h3
        exact ⟨q, g1, fun hq => h2 ((hs q g1 l hl q' h1 g3).mpr hq), g2, jb_t.mpr ⟨q', h1, g3, h4⟩⟩
      · rintro ⟨q, h1, h2, h3, h4⟩
        obtain ⟨q', g1, g2, g3⟩ := jb_t.mp h4
        exact ⟨q', g1, fun hq => h2 ((hs q h1 l hl q' g1 g2).mp hq), (hb q').mpr ⟨q, h1, h3, g2⟩, g3⟩
    rw [e1, e2]
theorem kG_M {n s m : Nat} {T : Nat → Nat → Nat} {E : Nat} (h : kSp n s m T) : ∀ (w : List Nat) (key : Nat), kW w → kG (nxM n T) (enM n s m T E) key w = aK n s m T E key w
  | [], _, _ => rfl
  | l :: w, key, hw => by
    have hl : l < 3 := hw l List.mem_cons_self
    show kG (nxM n T) (enM n s m T E) (nxM n T key l) w = _
    rw [kG_M h w _ (fun x hx => hw x (List.mem_cons_of_mem _ hx)), aK_step h hl]
/-- the words that the bits of a sign stand for -/
def wdB (b : Nat) : List Nat := if b = 0 then [] else if b < 4 then [b - 1] else [(b - 4) / 3, (b - 4) % 3]
theorem wdB_W {b : Nat} (hb : b < 13) : kW (wdB b) := by
  unfold wdB
  split
  · exact kW_nil
  · split
    · exact kW_cons (by omega) kW_nil
    · exact kW_cons (by omega) (kW_cons (by omega) kW_nil)
theorem mul_pow_bit {x i j : Nat} : (x * 2 ^ i).testBit j = (decide (i ≤ j) && x.testBit (j - i)) := by
  rw [Nat.testBit_mul_two_pow]
theorem gatN_bit {wv : Nat → Nat} {n st wd : Nat} (h : ∀ q, q < n → wv q < 2 ^ wd) {l b : Nat} (hl : l < 3) (hb : b < wd) : (gatN wv n st wd).testBit (wd * l + b) = (kNr wv (sT st l) n).testBit b := by
  have key : ∀ l', l' < 3 → (kNr wv (sT st l') n * 2 ^ (wd * l')).testBit (wd * l + b) = (decide (l' = l) && (kNr wv (sT st l') n).testBit b) := by
    intro l' hl'
    rw [mul_pow_bit]
    rcases Nat.lt_trichotomy l' l with h1 | h1 | h1
    · have h2 : wd * (l' + 1) ≤ wd * l := Nat.mul_le_mul_left _ h1
      rw [Nat.mul_succ] at h2
      rw [decide_eq_false (show ¬ l' = l by omega), Bool.false_and, Nat.testBit_lt_two_pow (Nat.lt_of_lt_of_le (kNr_lt h) (Nat.pow_le_pow_right (by omega) (show wd ≤ wd * l + b - wd * l' by omega))), Bool.and_false]
    · subst h1
      rw [decide_eq_true rfl, decide_eq_true (show wd * l' ≤ wd * l' + b by omega), Nat.add_sub_cancel_left]
    · have h2 : wd * (l + 1) ≤ wd * l' := Nat.mul_le_mul_left _ h1
      rw [Nat.mul_succ] at h2
      rw [decide_eq_false (show ¬ l' = l by omega), Bool.false_and, decide_eq_false (show ¬ wd * l' ≤ wd * l + b by omega), Bool.false_and]
  unfold gatN
  rw [Nat.testBit_or, Nat.testBit_or, Nat.testBit_or, Nat.zero_testBit, key 0 (by omega), key 1 (by omega), key 2 (by omega)]
  have : l = 0 ∨ l = 1 ∨ l = 2 := by omega
  rcases this with e | e | e <;> subst e <;> simp
theorem wv0_bit (E q : Nat) : (wv0 E q).testBit 0 = E.testBit q := by
  unfold wv0
  rw [Nat.testBit_and, Nat.testBit_div_two_pow]
  simp
theorem wv1_bit {E n : Nat} {stp : Nat → Nat} {q l : Nat} (hl : l < 3) : (wv1 E n stp q).testBit l = aq n (fun q l => sT (stp q) l) E q [l] := by
  have h := gatN_bit (wv := wv0 E) (n := n) (st := stp q) (wd := 1) (fun q _ => wv0_lt E q) hl (b := 0) (by omega)
  rw [Nat.one_mul, Nat.add_zero] at h
  unfold wv1
  rw [h, Bool.eq_iff_iff, kNr_bit]
  show _ ↔ jb _ = true
  rw [jb_t]
  constructor
  · rintro ⟨r, h1, h2, h3⟩
    exact ⟨r, h1, h2, by rw [wv0_bit] at h3; exact h3⟩
  · rintro ⟨r, h1, h2, h3⟩
    exact ⟨r, h1, h2, by rw [wv0_bit]; exact h3⟩
theorem wv2_bit {E n : Nat} {stp : Nat → Nat} {q l l' : Nat} (hl : l < 3) (hl' : l' < 3) : (wv2 E n stp q).testBit (3 * l + l') = aq n (fun q l => sT (stp q) l) E q [l, l'] := by
  have h := gatN_bit (wv := wv1 E n stp) (n := n) (st := stp q) (wd := 3) (fun q _ => wv1_lt E n stp q) hl (b := l') (by omega)
  unfold wv2
  rw [h, Bool.eq_iff_iff, kNr_bit]
  show _ ↔ jb _ = true
  rw [jb_t]
  constructor
  · rintro ⟨r, h1, h2, h3⟩
    exact ⟨r, h1, h2, by rw [wv1_bit hl'] at h3; exact h3⟩
  · rintro ⟨r, h1, h2, h3⟩
    exact ⟨r, h1, h2, by rw [wv1_bit hl']; exact h3⟩
theorem sgn_lt (E n : Nat) (stp : Nat → Nat) (q : Nat) : sgn E n stp q < 2 ^ 13 := by
  have h0 := wv0_lt E q
  have h1 := wv1_lt E n stp q
  have h2 := wv2_lt E n stp q
  exact Nat.or_lt_two_pow (Nat.or_lt_two_pow (by omega) (by omega)) (by omega)
theorem sgn_bit {E n : Nat} {stp : Nat → Nat} {q b : Nat} (hb : b < 13) : (sgn E n stp q).testBit b = aq n (fun q l => sT (stp q) l) E q (wdB b) := by
  unfold sgn
  rw [Nat.testBit_or, Nat.testBit_or, mul_pow_bit, mul_pow_bit]
  have h0 := wv0_lt E q
  have h1 := wv1_lt E n stp q
  have h2 := wv2_lt E n stp q
  unfold wdB
  by_cases hb0 : b = 0
  · subst hb0
    rw [if_pos rfl, decide_eq_false (by omega), decide_eq_false (by omega), Bool.false_and, Bool.false_and, Bool.or_false, Bool.or_false, wv0_bit]
    rfl
  · rw [if_neg hb0, Nat.testBit_lt_two_pow (Nat.lt_of_lt_of_le h0 (Nat.pow_le_pow_right (by omega) (by omega))), Bool.false_or, decide_eq_true (show 1 ≤ b by omega), Bool.true_and]
    by_cases hb4 : b < 4
    · rw [if_pos hb4, decide_eq_false (by omega), Bool.false_and, Bool.or_false, wv1_bit (by omega)]
    · rw [if_neg hb4, decide_eq_true (by omega), Bool.true_and, Nat.testBit_lt_two_pow (Nat.lt_of_lt_of_le h1 (Nat.pow_le_pow_right (by omega) (by omega))), Bool.false_or]
      have := wv2_bit (E := E) (n := n) (stp := stp) (q := q) (l := (b - 4) / 3) (l' := (b - 4) % 3) (by omega) (by omega)
      rw [show 3 * ((b - 4) / 3) + (b - 4) % 3 = b - 4 by omega] at this
      exact this
/-- the sign of a set of nodes -/
def sgL (E n s : Nat) (stp : Nat → Nat) (key : Nat) (j : Nat) : Nat := kNr (fun q => if q < s then sgn E n stp q else 0) key j
def sgH (E n s : Nat) (stp : Nat → Nat) (key : Nat) (j : Nat) : Nat := kNr (fun q => if q < s then 0 else sgn E n stp q) key j
def sgK (E n s m : Nat) (stp : Nat → Nat) (key : Nat) : Nat := if m = 1 then sgL E n s stp key n &&& sgH E n s stp key n else if m = 2 then nD (sgL E n s stp key n) (sgH E n s stp key n) else sgL E n s stp key n ||| sgH E n s stp key n
theorem sgL_lt (E n s : Nat) (stp : Nat → Nat) (key j : Nat) : sgL E n s stp key j < 2 ^ 13 := kNr_lt (fun r _ => by split; exact sgn_lt E n stp r; exact Nat.two_pow_pos _)
theorem sgH_lt (E n s : Nat) (stp : Nat → Nat) (key j : Nat) : sgH E n s stp key j < 2 ^ 13 := kNr_lt (fun r _ => by split; exact Nat.two_pow_pos _; exact sgn_lt E n stp r)
theorem sgK_bit {E n s m : Nat} {stp : Nat → Nat} {key b : Nat} (hm : m < 3) (hb : b < 13) : (sgK E n s m stp key).testBit b = aK n s m (fun q l => sT (stp q) l) E key (wdB b) := by
  have e1 : (sgL E n s stp key n).testBit b = jb (∃ q, q < n ∧ q < s ∧ key.testBit q = true ∧ aq n (fun q l => sT (stp q) l) E q (wdB b) = true) := by
    unfold sgL
    rw [Bool.eq_iff_iff, kNr_bit, jb_t]
    constructor
    · rintro ⟨r, h1, h2, h3⟩
      by_cases hr : r < s
      · rw [if_pos hr, sgn_bit hb] at h3
        exact ⟨r, h1, hr, h2, h3⟩
      · rw [if_neg hr, Nat.zero_testBit] at h3
        cases h3
    · rintro ⟨r, h1, hr, h2, h3⟩
      exact ⟨r, h1, h2, by rw [if_pos hr, sgn_bit hb]; exact h3⟩
  have e2 : (sgH E n s stp key n).testBit b = jb (∃ q, q < n ∧ ¬ q < s ∧ key.testBit q = true ∧ aq n (fun q l => sT (stp q) l) E q (wdB b) = true) := by
    unfold sgH
    rw [Bool.eq_iff_iff, kNr_bit, jb_t]
    constructor
    · rintro ⟨r, h1, h2, h3⟩
      by_cases hr : r < s
      · rw [if_pos hr, Nat.zero_testBit] at h3
        cases h3
      · rw [if_neg hr, sgn_bit hb] at h3
        exact ⟨r, h1, hr, h2, h3⟩
    · rintro ⟨r, h1, hr, h2, h3⟩
      exact ⟨r, h1, h2, by rw [if_neg hr, sgn_bit hb]; exact h3⟩
  unfold sgK aK mHow
  have : m = 0 ∨ m = 1 ∨ m = 2 := by omega
  rcases this with h | h | h <;> subst h
  · rw [if_neg (by omega), if_neg (by omega), Nat.testBit_or, e1, e2, if_pos rfl]
  · rw [if_pos rfl, Nat.testBit_and, e1, e2, if_neg (by omega), if_pos rfl]
  · rw [if_neg (by omega), if_pos rfl, nD_bit, e1, e2, if_neg (by omega), if_neg (by omega)]
theorem sgK_lt (E n s m : Nat) (stp : Nat → Nat) (key : Nat) : sgK E n s m stp key < 2 ^ 13 := by
  have h1 := sgL_lt E n s stp key n
  have h2 := sgH_lt E n s stp key n
  unfold sgK
  split
  · exact Nat.lt_of_le_of_lt Nat.and_le_left h1
  · split
    · unfold nD
      exact Nat.xor_lt_two_pow h1 (Nat.lt_of_le_of_lt Nat.and_le_left h1)
    · exact Nat.or_lt_two_pow h1 h2
/-- other signs, other texts -/
theorem sgK_ne {E n s m : Nat} {stp : Nat → Nat} {k1 k2 : Nat} (hm : m < 3) (h : sgK E n s m stp k1 ≠ sgK E n s m stp k2) : ∃ w, kW w ∧ aK n s m (fun q l => sT (stp q) l) E k1 w ≠ aK n s m (fun q l => sT (stp q) l) E k2 w := by
  obtain ⟨b, hb⟩ := Nat.exists_testBit_ne_of_ne h
  by_cases hb13 : b < 13
  · rw [sgK_bit hm hb13, sgK_bit hm hb13] at hb
    exact ⟨wdB b, wdB_W hb13, hb⟩
  · exfalso
    apply hb
    rw [Nat.testBit_lt_two_pow (Nat.lt_of_lt_of_le (sgK_lt E n s m stp k1) (Nat.pow_le_pow_right (by omega) (by omega))), Nat.testBit_lt_two_pow (Nat.lt_of_lt_of_le (sgK_lt E n s m stp k2) (Nat.pow_le_pow_right (by omega) (by omega)))]
theorem sgK_end {E n s m : Nat} {stp : Nat → Nat} {key : Nat} (hm : m < 3) : (sgK E n s m stp key).testBit 0 = enM n s m (fun q l => sT (stp q) l) E key := sgK_bit (b := 0) hm (by omega)

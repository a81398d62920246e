/-! CANONICAL AUTOMATA over the letters 0, 1, 2: complete, minimal, numbered as a scan of the rows meets the states; there is one for a language at the most -/
abbrev kA : Type := Nat × (Nat → Bool) × (Nat → Nat → Nat)
/-- words of letters -/
def kW (w : List Nat) : Prop := ∀ l ∈ w, l < 3
/-- what is taken from a state on -/
def kL (A : kA) : Nat → List Nat → Bool
  | q, [] => A.2.1 q
  | q, l :: w => kL A (A.2.2 q l) w
/-- where a word leads -/
def kD (A : kA) : Nat → List Nat → Nat
  | q, [] => q
  | q, l :: w => kD A (A.2.2 q l) w
theorem kL_app (A : kA) : ∀ (v w : List Nat) (q : Nat), kL A q (v ++ w) = kL A (kD A q v) w
  | [], _, _ => rfl
  | l :: v, w, q => kL_app A v w (A.2.2 q l)
theorem kW_nil : kW [] := fun _ h => by cases h
theorem kW_cons {l : Nat} {w : List Nat} (hl : l < 3) (hw : kW w) : kW (l :: w) := by
  intro x hx
  rcases List.mem_cons.mp hx with h | h
  · rw [h]; exact hl
  · exact hw x h
theorem kW_app {v w : List Nat} (hv : kW v) (hw : kW w) : kW (v ++ w) := by
  intro x hx
  rcases List.mem_append.mp hx with h | h
  · exact hv x h
  · exact hw x h
def kWf (A : kA) : Prop := 0 < A.1 ∧ ∀ q, q < A.1 → ∀ l, l < 3 → A.2.2 q l < A.1
/-- the rows' places in one row -/
def kS (A : kA) (p : Nat) : Nat := A.2.2 (p / 3) (p % 3)
/-- the highest state that is met by the first p places -/
def kM (A : kA) : Nat → Nat
  | 0 => 0
  | p + 1 => max (kM A p) (kS A p)
def kSame (A : kA) (i : Nat) (B : kA) (j : Nat) : Prop := ∀ w, kW w → kL A i w = kL B j w
def kMin (A : kA) : Prop := ∀ i, i < A.1 → ∀ j, j < A.1 → kSame A i A j → i = j
def kNum (A : kA) : Prop := (∀ p, p < 3 * A.1 → kS A p ≤ kM A p + 1) ∧ ∀ i, i < A.1 → i ≤ kM A (3 * i)
def kC (A : kA) : Prop := kWf A ∧ kMin A ∧ kNum A
theorem kM_le (A : kA) {p q : Nat} (h : p ≤ q) : kM A p ≤ kM A q := by
  induction h with
  | refl => exact Nat.le_refl _
  | step _ ih => exact Nat.le_trans ih (Nat.le_max_left _ _)
theorem kM_lt {A : kA} (h : kWf A) : ∀ p, p ≤ 3 * A.1 → kM A p < A.1
  | 0, _ => h.1
  | p + 1, hp => by
    have h1 := kM_lt h p (by omega)
    have h2 : kS A p < A.1 := h.2 (p / 3) (by omega) (p % 3) (by omega)
    show max (kM A p) (kS A p) < A.1
    omega
theorem kSame_step {A B : kA} {i j l : Nat} (h : kSame A i B j) (hl : l < 3) : kSame A (A.2.2 i l) B (B.2.2 j l) := fun w hw => h (l :: w) (kW_cons hl hw)
theorem kC_scan {A B : kA} (hA : kC A) (hB : kC B) (h0 : kSame A 0 B 0) : ∀ p, p ≤ 3 * A.1 → p ≤ 3 * B.1 → kM A p = kM B p ∧ (∀ q, q < p → kS A q = kS B q) ∧ ∀ i, i ≤ kM A p → kSame A i B i := by
  obtain ⟨wA, mA, nA⟩ := hA
  obtain ⟨wB, mB, nB⟩ := hB
  intro p
  induction p with
  | zero =>
    intro _ _
    refine ⟨rfl, fun q hq => absurd hq (by omega), fun i hi => ?_⟩
    have : i = 0 := by have : i ≤ 0 := hi; omega
    rw [this]; exact h0
  | succ p ih =>
    intro h1 h2
    obtain ⟨e1, e2, e3⟩ := ih (by omega) (by omega)
    have hiA : p / 3 < A.1 := by omega
    have hiB : p / 3 < B.1 := by omega
    have hi : p / 3 ≤ kM A p := Nat.le_trans (nA.2 _ hiA) (kM_le A (by omega))
    have hl : p % 3 < 3 := by omega
    have hs : kSame A (kS A p) B (kS B p) := kSame_step (e3 _ hi) hl
    have gA := nA.1 p (by omega)
    have gB := nB.1 p (by omega)
    have ltA := kM_lt wA p (by omega)
    have ltB := kM_lt wB p (by omega)
    have sA : kS A p < A.1 := wA.2 _ hiA _ hl
    have sB : kS B p < B.1 := wB.2 _ hiB _ hl
    have heq : kS A p = kS B p := by
      by_cases ha : kS A p ≤ kM A p
      · have h3 := e3 _ ha
        exact mB _ (by omega) _ sB (fun w hw => (h3 w hw).symm.trans (hs w hw))
      · by_cases hb : kS B p ≤ kM B p
        · have h3 := e3 (kS B p) (by omega)
          have := mA _ sA (kS B p) (by omega) (fun w hw => (hs w hw).trans (h3 w hw).symm)
          omega
        · omega
    refine ⟨by show max _ _ = max _ _; rw [e1, heq], fun q hq => ?_, fun i hi2 => ?_⟩
    · by_cases hqp : q = p
      · rw [hqp]; exact heq
      · exact e2 q (by omega)
    · by_cases hle : i ≤ kM A p
      · exact e3 i hle
      · have h4 : i ≤ max (kM A p) (kS A p) := hi2
        have : i = kS A p := by omega
        rw [this]
        have h5 := hs
        rw [← heq] at h5
        exact h5
/-- two canonical automata of one language are one -/
theorem kC_one {A B : kA} (hA : kC A) (hB : kC B) (h0 : kSame A 0 B 0) : A.1 = B.1 ∧ (∀ q, q < A.1 → A.2.1 q = B.2.1 q) ∧ ∀ q, q < A.1 → ∀ l, l < 3 → A.2.2 q l = B.2.2 q l := by
  have hn : A.1 = B.1 := by
    rcases Nat.lt_trichotomy A.1 B.1 with h | h | h
    · obtain ⟨e1, -, -⟩ := kC_scan hA hB h0 (3 * A.1) (Nat.le_refl _) (by omega)
      have h1 := hB.2.2.2 A.1 h
      have h2 := kM_lt hA.1 (3 * A.1) (Nat.le_refl _)
      omega
    · exact h
    · obtain ⟨e1, -, -⟩ := kC_scan hA hB h0 (3 * B.1) (by omega) (Nat.le_refl _)
      have h1 := hA.2.2.2 B.1 h
      have h2 := kM_lt hB.1 (3 * B.1) (Nat.le_refl _)
      omega
  obtain ⟨e1, e2, e3⟩ := kC_scan hA hB h0 (3 * A.1) (Nat.le_refl _) (by omega)
  refine ⟨hn, fun q hq => ?_, fun q hq l hl => ?_⟩
  · have h1 := hA.2.2.2 q hq
    exact e3 q (Nat.le_trans h1 (kM_le A (by omega))) [] kW_nil
  · have := e2 (3 * q + l) (by omega)
    unfold kS at this
    rw [show (3 * q + l) / 3 = q by omega, show (3 * q + l) % 3 = l by omega] at this
    exact this
/-- more than ten remainders -/
def kBig (G : List Nat → Bool) : Prop := ∃ f : Nat → List Nat, (∀ i, i < 11 → kW (f i)) ∧ ∀ i j, i < j → j < 11 → ∃ w, kW w ∧ G (f i ++ w) ≠ G (f j ++ w)
theorem kPigeon : ∀ (n : Nat) (f : Nat → Nat), (∀ i, i < n + 1 → f i < n) → ∃ i j, i < j ∧ j < n + 1 ∧ f i = f j
  | 0, f, h => absurd (h 0 (by omega)) (by omega)
  | n + 1, f, h => by
    by_cases hx : ∃ i, i < n + 1 ∧ f i = f (n + 1)
    · obtain ⟨i, h1, h2⟩ := hx
      exact ⟨i, n + 1, h1, by omega, h2⟩
    · have hlast := h (n + 1) (by omega)
      obtain ⟨i, j, h1, h2, h3⟩ := kPigeon n (fun i => if f i < f (n + 1) then f i else f i - 1) (fun i hi => by
        have h1 := h i (by omega)
        have h2 : f i ≠ f (n + 1) := fun e => hx ⟨i, hi, e⟩
        split <;> omega)
      refine ⟨i, j, h1, by omega, ?_⟩
      have g1 : f i ≠ f (n + 1) := fun e => hx ⟨i, by omega, e⟩
      have g2 : f j ≠ f (n + 1) := fun e => hx ⟨j, by omega, e⟩
      split at h3 <;> split at h3 <;> omega
theorem kD_lt {A : kA} (h : kWf A) : ∀ (w : List Nat) (q : Nat), kW w → q < A.1 → kD A q w < A.1
  | [], _, _, hq => hq
  | l :: w, q, hw, hq => kD_lt h w _ (fun x hx => hw x (List.mem_cons_of_mem _ hx)) (h.2 q hq l (hw l List.mem_cons_self))
theorem kC_small {A : kA} (h : kWf A) (hn : A.1 ≤ 10) : ¬ kBig (kL A 0) := by
  intro ⟨f, hf, hd⟩
  obtain ⟨i, j, h1, h2, h3⟩ := kPigeon 10 (fun i => kD A 0 (f i)) (fun i hi => Nat.lt_of_lt_of_le (kD_lt h (f i) 0 (hf i hi) h.1) hn)
  obtain ⟨w, -, hne⟩ := hd i j h1 h2
  apply hne
  rw [kL_app, kL_app]
  rw [h3]
/-- eleven states that differ, all reached: too many -/
theorem kBig_of {A : kA} (f : Nat → List Nat) (hf : ∀ i, i < 11 → kW (f i)) (hd : ∀ i j, i < j → j < 11 → ∃ w, kW w ∧ kL A (kD A 0 (f i)) w ≠ kL A (kD A 0 (f j)) w) : kBig (kL A 0) := ⟨f, hf, fun i j h1 h2 => by
  obtain ⟨w, h3, h4⟩ := hd i j h1 h2
  exact ⟨w, h3, by rw [kL_app, kL_app]; exact h4⟩⟩
theorem kBig_congr {G G' : List Nat → Bool} (h : ∀ w, kW w → G w = G' w) (hb : kBig G) : kBig G' := by
  obtain ⟨f, hf, hd⟩ := hb
  refine ⟨f, hf, fun i j h1 h2 => ?_⟩
  obtain ⟨w, h3, h4⟩ := hd i j h1 h2
  exact ⟨w, h3, by rw [← h _ (kW_app (hf i (by omega)) h3), ← h _ (kW_app (hf j h2) h3)]; exact h4⟩

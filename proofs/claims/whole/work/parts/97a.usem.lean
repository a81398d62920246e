/-! RUNS: what a run does -/
set_option maxRecDepth 100000
/-- what was drawn, steps, rings, texts -/
abbrev uS : Type := Nat × Nat × Nat × (Nat → List Nat)
noncomputable def uDr (x : Nat) : Nat := Classical.epsilon (fun y => y = (x * 1103515245 + 12345) % 2147483648)
theorem uDr_eq (x : Nat) : uDr x = (x * 1103515245 + 12345) % 2147483648 := Classical.epsilon_spec (p := fun y => y = (x * 1103515245 + 12345) % 2147483648) ⟨_, rfl⟩
theorem uDr_lt (x : Nat) : uDr x < 2147483648 := by rw [uDr_eq]; exact Nat.mod_lt _ (by omega)
def uLt (q : Nat → Nat → Nat) : Nat → Nat → List Nat
  | _, 0 => []
  | a, n + 1 => q 120 a :: uLt q (a + 1) n
noncomputable def uPt (q : Nat → Nat → Nat) (P : Nat → kA) (V : Nat → List Nat) (x k : Nat) : Nat × List Nat := if q 144 k = 2 then (uDr x, (fT (P (q 145 k)) (uDr x / 65536 % min (sm (P (q 145 k)) 220 0) 8)).getD []) else if q 144 k = 0 then (x, V (q 145 k)) else (x, uLt q (q 145 k) (q 146 k))
noncomputable def uPs (q : Nat → Nat → Nat) (P : Nat → kA) (V : Nat → List Nat) : Nat → Nat → Nat → List Nat → Option (Nat × List Nat)
  | 0, _, x, w => some (x, w)
  | n + 1, k, x, w => if 40 < w.length + (uPt q P V x k).2.length then none else uPs q P V n (k + 1) (uPt q P V x k).1 (w ++ (uPt q P V x k).2)
def uChg (p r : Nat) : List Nat → List Nat
  | [] => []
  | l :: w => if l = p then (if r = 3 then uChg p r w else r :: uChg p r w) else l :: uChg p r w
def uC (s : uS) : uS := (s.1, s.2.1 + 1, s.2.2)
noncomputable def uS1 (q : Nat → Nat → Nat) (P : Nat → kA) (a : Nat) (s : uS) : Option uS :=
  if q 138 a = 1 then (uPs q P s.2.2.2 (q 140 a - q 139 a) (q 139 a) s.1 []).map (fun r => (r.1, s.2.1, s.2.2.1, jup s.2.2.2 (q 141 a) r.2))
  else if q 138 a = 2 then some (s.1, s.2.1, s.2.2.1, jup s.2.2.2 (q 139 a) (uChg (q 140 a) (q 141 a) (s.2.2.2 (q 139 a))))
  else some (s.1, s.2.1, s.2.2.1 + (if kL (P (q 140 a)) 0 (s.2.2.2 (q 139 a)) = true then 1 else 0), s.2.2.2)
noncomputable def uTs (q : Nat → Nat → Nat) (P : Nat → kA) (a : Nat) (s : uS) : Bool × uS :=
  if q 138 a = 4 ∨ q 138 a = 6 then (kL (P (q 140 a)) 0 (s.2.2.2 (q 139 a)), s)
  else if q 138 a = 5 then (decide (uDr s.1 / 65536 % 2 = 0), (uDr s.1, s.2))
  else (decide (uDr s.1 / 65536 % 3 ≠ 0), (uDr s.1, s.2))
def uLoop (B : uS → Option uS) (t : uS → Bool × uS) : Nat → uS → Option uS
  | 0, _ => none
  | m + 1, s => if 100 ≤ s.2.1 then none else if (t (uC s)).1 = true then (B (t (uC s)).2).bind (uLoop B t m) else some (t (uC s)).2
noncomputable def uBlk (q : Nat → Nat → Nat) (P : Nat → kA) : Nat → Nat → Nat → uS → Option uS
  | 0 => fun _ _ s => some s
  | f + 1 => fun a b s => if a = b then some s
      else if q 138 a ≤ 3 then (if 100 ≤ s.2.1 then none else (uS1 q P a (uC s)).bind (uBlk q P f (a + 1) b))
      else if q 138 a = 4 ∨ q 138 a = 5 then (if 100 ≤ s.2.1 then none else (if (uTs q P a (uC s)).1 = true then uBlk q P f (a + 1) (q 142 a - 1) (uTs q P a (uC s)).2 else uBlk q P f (q 142 a - 1 + 1) (q 142 (q 142 a - 1) - 1) (uTs q P a (uC s)).2).bind (uBlk q P f (q 142 (q 142 a - 1) - 1 + 1) b))
      else (uLoop (uBlk q P f (a + 1) (q 142 a - 1)) (uTs q P a) 101 s).bind (uBlk q P f (q 142 a - 1 + 1) b)
/-! steps are counted -/
theorem uTs_n (q : Nat → Nat → Nat) (P : Nat → kA) (a : Nat) (s : uS) : (uTs q P a s).2.2 = s.2 := by
  unfold uTs
  split
  · rfl
  · split <;> rfl
theorem uS1_n {q : Nat → Nat → Nat} {P : Nat → kA} {a : Nat} {s s' : uS} (h : uS1 q P a s = some s') : s'.2.1 = s.2.1 := by
  unfold uS1 at h
  split at h
  · cases hp : uPs q P s.2.2.2 (q 140 a - q 139 a) (q 139 a) s.1 [] with
    | none => rw [hp] at h; cases h
    | some r => rw [hp] at h; cases h; rfl
  · split at h <;> cases h <;> rfl
theorem uLoop_n {B : uS → Option uS} {t : uS → Bool × uS} (hB : ∀ s s', B s = some s' → s.2.1 ≤ s'.2.1) (ht : ∀ s, (t s).2.2 = s.2) : ∀ m s s', uLoop B t m s = some s' → s.2.1 ≤ s'.2.1 := by
  intro m
  induction m with
  | zero => intro s s' h; cases h
  | succ m ih =>
    intro s s' h
    unfold uLoop at h
    split at h
    · cases h
    · have e : (t (uC s)).2.2.1 = s.2.1 + 1 := by rw [ht]; rfl
      split at h
      · cases hb : B (t (uC s)).2 with
        | none => rw [hb] at h; cases h
        | some s1 =>
          rw [hb] at h
          have h1 := hB _ _ hb
          have h2 := ih s1 s' h
          omega
      · cases h
        omega
theorem uBlk_n (q : Nat → Nat → Nat) (P : Nat → kA) : ∀ f a b s s', uBlk q P f a b s = some s' → s.2.1 ≤ s'.2.1 := by
  intro f
  induction f with
  | zero => intro a b s s' h; cases h; exact Nat.le_refl _
  | succ f ih =>
    intro a b s s' h
    unfold uBlk at h
    split at h
    · cases h; exact Nat.le_refl _
    · split at h
      · split at h
        · cases h
        · cases h1 : uS1 q P a (uC s) with
          | none => rw [h1] at h; cases h
          | some s1 =>
            rw [h1] at h
            have e1 := uS1_n h1
            have e2 : (uC s).2.1 = s.2.1 + 1 := rfl
            have := ih _ _ _ _ h
            omega
      · have e : (uTs q P a (uC s)).2.2.1 = s.2.1 + 1 := by rw [uTs_n]; rfl
        split at h
        · split at h
          · cases h
          · split at h
            · cases h1 : uBlk q P f (a + 1) (q 142 a - 1) (uTs q P a (uC s)).2 with
              | none => rw [h1] at h; cases h
              | some s1 =>
                rw [h1] at h
                have e1 := ih _ _ _ _ h1
                have := ih _ _ _ _ h
                omega
            · cases h1 : uBlk q P f (q 142 a - 1 + 1) (q 142 (q 142 a - 1) - 1) (uTs q P a (uC s)).2 with
              | none => rw [h1] at h; cases h
              | some s1 =>
                rw [h1] at h
                have e1 := ih _ _ _ _ h1
                have := ih _ _ _ _ h
                omega
        · cases h1 : uLoop (uBlk q P f (a + 1) (q 142 a - 1)) (uTs q P a) 101 s with
          | none => rw [h1] at h; cases h
          | some s1 =>
            rw [h1] at h
            have e1 := uLoop_n (fun s s' h => ih _ _ _ _ h) (uTs_n q P a) _ _ _ h1
            have := ih _ _ _ _ h
            omega
/-! letters are added one by one -/
def uAd : Option (List Nat) → Nat → Option (List Nat)
  | none, _ => none
  | some w, l => if w.length < 40 then some (w ++ [l]) else none
def uAdL : Option (List Nat) → List Nat → Option (List Nat)
  | o, [] => o
  | o, l :: u => uAdL (uAd o l) u
theorem uAdL_none : ∀ u, uAdL none u = none
  | [] => rfl
  | _ :: u => uAdL_none u
theorem uAdL_some : ∀ (u w : List Nat), w.length ≤ 40 → uAdL (some w) u = if 40 < w.length + u.length then none else some (w ++ u) := by
  intro u
  induction u with
  | nil =>
    intro w hw
    show some w = _
    rw [if_neg (by simp; omega), List.append_nil]
  | cons l u ih =>
    intro w hw
    show uAdL (if w.length < 40 then some (w ++ [l]) else none) u = _
    by_cases h : w.length < 40
    · have h2 : (w ++ [l]).length = w.length + 1 := by simp
      rw [if_pos h, ih _ (by omega), h2, List.length_cons, List.append_assoc]
      by_cases h3 : 40 < w.length + 1 + u.length
      · rw [if_pos h3, if_pos (by omega)]
      · rw [if_neg h3, if_neg (by omega)]; rfl
    · rw [if_neg h, uAdL_none, if_pos (by rw [List.length_cons]; omega)]
theorem uLt_len (q : Nat → Nat → Nat) : ∀ n a, (uLt q a n).length = n := by
  intro n
  induction n with
  | zero => intro a; rfl
  | succ n ih => intro a; show (uLt q (a + 1) n).length + 1 = n + 1; rw [ih]
theorem uLt_get (q : Nat → Nat → Nat) : ∀ n a x, x < n → (uLt q a n).getD x 0 = q 120 (a + x) := by
  intro n
  induction n with
  | zero => intro a x h; omega
  | succ n ih =>
    intro a x h
    cases x with
    | zero => rfl
    | succ x =>
      show (uLt q (a + 1) n).getD x 0 = _
      rw [ih (a + 1) x (by omega), show a + 1 + x = a + (x + 1) by omega]
theorem kW_of {w : List Nat} (h : ∀ x, x < w.length → w.getD x 0 < 3) : kW w := by
  intro l hl
  obtain ⟨i, hi, e⟩ := List.getElem_of_mem hl
  have := h i hi
  rw [List.getD_eq_getElem?_getD, List.getElem?_eq_getElem hi] at this
  rw [← e]
  exact this
theorem getD_app {w u : List Nat} {x : Nat} : (w ++ u).getD x 0 = if x < w.length then w.getD x 0 else u.getD (x - w.length) 0 := by
  rw [List.getD_eq_getElem?_getD, List.getElem?_append]
  split
  · rw [List.getD_eq_getElem?_getD]
  · rw [List.getD_eq_getElem?_getD]
theorem uChg_len (p r : Nat) : ∀ w : List Nat, (uChg p r w).length ≤ w.length := by
  intro w
  induction w with
  | nil => exact Nat.le_refl _
  | cons l w ih =>
    unfold uChg
    split
    · split
      · rw [List.length_cons]; omega
      · rw [List.length_cons, List.length_cons]; omega
    · rw [List.length_cons, List.length_cons]; omega
theorem uChg_W {p r : Nat} (hr : r ≤ 3) : ∀ w : List Nat, kW w → kW (uChg p r w) := by
  intro w
  induction w with
  | nil => intro h; exact h
  | cons l w ih =>
    intro h
    have h' : kW w := fun x hx => h x (List.mem_cons_of_mem _ hx)
    have hl : l < 3 := h l List.mem_cons_self
    unfold uChg
    split
    · split
      · exact ih h'
      · intro x hx
        rcases List.mem_cons.mp hx with e | e
        · omega
        · exact ih h' x e
    · intro x hx
      rcases List.mem_cons.mp hx with e | e
      · omega
      · exact ih h' x e

/-! PROGRAMS: the nodes of the steps a to b -/
set_option maxRecDepth 100000
/-- a loop's braces; a branch's -/
def eE (q : Nat → Nat → Nat) (a e : Nat) : Prop := q 142 a = e + 1 ∧ q 142 e = a + 1 ∧ q 138 e = 9 ∧ q 139 e = q 139 a ∧ q 140 e = q 140 a ∧ q 141 e = q 138 a
def eS (q : Nat → Nat → Nat) (a m e : Nat) : Prop := q 142 a = m + 1 ∧ q 138 m = 8 ∧ q 139 m = q 139 a ∧ q 140 m = q 140 a ∧ q 141 m = q 138 a ∧ q 142 m = e + 1 ∧ q 138 e = 9 ∧ q 141 e = q 138 a
def nB (q : Nat → Nat → Nat) (g : jG) (X : Nat → Nat → Option Nat → Nat → Nat → Prop) (k n a j : Nat) : Prop := (1 ≤ q 138 a ∧ q 138 a ≤ 3 ∧ j = a + 1) ∨ (k < 5 ∧ (q 138 a = 6 ∨ q 138 a = 7) ∧ ∃ e, eE q a e ∧ a < e ∧ j = e + 1 ∧ X (k + 1) n (g.2.2.1 n 4) (a + 1) e) ∨ (k < 5 ∧ (q 138 a = 4 ∨ q 138 a = 5) ∧ ∃ m e, eS q a m e ∧ a < m ∧ m < e ∧ j = e + 1 ∧ X (k + 1) n (g.2.2.1 n 4) (a + 1) m ∧ X (k + 1) n (g.2.2.1 n 5) (m + 1) e)
/-- x is the chain of the steps a to b, k braces deep, in cells above lo, to B -/
def nd (L : Nat) (q : Nat → Nat → Nat) (g : jG) (I : Nat → Nat → Int32) (B : Nat) : Nat → Nat → Nat → Option Nat → Nat → Nat → Prop
  | 0 => fun _ _ x a b => x = none ∧ a = b
  | f + 1 => fun k lo x a b => (x = none ∧ a = b) ∨ ∃ n j, x = some n ∧ lo < n ∧ n ≤ B ∧ gK L g n = 4 ∧ nS q I n a ∧ bS q a ∧ a < j ∧ j ≤ b ∧ nB q g (nd L q g I B f) k n a j ∧ nd L q g I B f k n (g.2.2.1 n 6) j b
theorem nd_q {L : Nat} {q q' : Nat → Nat → Nat} {g : jG} {I : Nat → Nat → Int32} {B : Nat} (hP : qP q q') : ∀ f k lo x a b, (∀ s, a ≤ s → s < b → qE q q' s) → nd L q g I B f k lo x a b → nd L q' g I B f k lo x a b := by
  intro f
  induction f with
  | zero => intro k lo x a b _ h; exact h
  | succ f ih =>
    intro k lo x a b hs h
    rcases h with h | ⟨n, j, h1, h2, h3, h4, h5, h6, h7, h8, h9, h10⟩
    · exact Or.inl h
    · obtain ⟨e1, e2, e3, e4, e5, e6⟩ := hs a (by omega) (by omega)
      refine Or.inr ⟨n, j, h1, h2, h3, h4, nS_q ⟨e1, e2, e3, e4, e6⟩ h5, bS_q hP ⟨e1, e2, e3, e4, e6⟩ h6, h7, h8, ?_, ih _ _ _ _ _ (fun s y1 y2 => hs s (by omega) y2) h10⟩
      rcases h9 with ⟨y1, y2, y3⟩ | ⟨y1, y2, e, y3, y4, y5, y6⟩ | ⟨y1, y2, m, e, y3, y4, y5, y6, y7, y8⟩
      · exact Or.inl ⟨by omega, by omega, y3⟩
      · obtain ⟨f1, f2, f3, f4, f5, f6⟩ := hs e (by omega) (by omega)
        refine Or.inr (Or.inl ⟨y1, by omega, e, ?_, y4, y5, ih _ _ _ _ _ (fun s z1 z2 => hs s (by omega) (by omega)) y6⟩)
        unfold eE
        rw [e1, e2, e3, e5, f1, f2, f3, f4, f5]
        exact y3
      · obtain ⟨f1, f2, f3, f4, f5, f6⟩ := hs e (by omega) (by omega)
        obtain ⟨o1, o2, o3, o4, o5, o6⟩ := hs m (by omega) (by omega)
        refine Or.inr (Or.inr ⟨y1, by omega, m, e, ?_, y4, y5, y6, ih _ _ _ _ _ (fun s z1 z2 => hs s (by omega) (by omega)) y7, ih _ _ _ _ _ (fun s z1 z2 => hs s (by omega) (by omega)) y8⟩)
        unfold eS
        rw [e1, e2, e3, e5, f1, f4, o1, o2, o3, o4, o5]
        exact y3
theorem nd_h {L : Nat} {q : Nat → Nat → Nat} {g g' : jG} {I I' : Nat → Nat → Int32} {B B' : Nat} (hB : B ≤ B') : ∀ f k lo x a b, (∀ n, lo < n → n ≤ B → (∀ k, I' n k = I n k) ∧ gK L g' n = gK L g n ∧ g'.2.2.1 n 4 = g.2.2.1 n 4 ∧ g'.2.2.1 n 5 = g.2.2.1 n 5 ∧ g'.2.2.1 n 6 = g.2.2.1 n 6) → nd L q g I B f k lo x a b → nd L q g' I' B' f k lo x a b := by
  intro f
  induction f with
  | zero => intro k lo x a b _ h; exact h
  | succ f ih =>
    intro k lo x a b hs h
    rcases h with h | ⟨n, j, h1, h2, h3, h4, h5, h6, h7, h8, h9, h10⟩
    · exact Or.inl h
    · obtain ⟨e1, e2, e3, e4, e5⟩ := hs n h2 h3
      have hs' : ∀ n', n < n' → n' ≤ B → (∀ k, I' n' k = I n' k) ∧ gK L g' n' = gK L g n' ∧ g'.2.2.1 n' 4 = g.2.2.1 n' 4 ∧ g'.2.2.1 n' 5 = g.2.2.1 n' 5 ∧ g'.2.2.1 n' 6 = g.2.2.1 n' 6 := fun n' y1 y2 => hs n' (by omega) y2
      refine Or.inr ⟨n, j, h1, h2, by omega, by rw [e2]; exact h4, ?_, h6, h7, h8, ?_, by rw [e5]; exact ih _ _ _ _ _ hs' h10⟩
      · unfold nS
        rw [e1, e1, e1, e1]
        exact h5
      · rcases h9 with y | ⟨y1, y2, e, y3, y4, y5, y6⟩ | ⟨y1, y2, m, e, y3, y4, y5, y6, y7, y8⟩
        · exact Or.inl y
        · exact Or.inr (Or.inl ⟨y1, y2, e, y3, y4, y5, by rw [e3]; exact ih _ _ _ _ _ hs' y6⟩)
        · exact Or.inr (Or.inr ⟨y1, y2, m, e, y3, y4, y5, y6, by rw [e3]; exact ih _ _ _ _ _ hs' y7, by rw [e4]; exact ih _ _ _ _ _ hs' y8⟩)
theorem nd_lo {L : Nat} {q : Nat → Nat → Nat} {g : jG} {I : Nat → Nat → Int32} {B : Nat} : ∀ f k lo lo' x a b, lo' ≤ lo → nd L q g I B f k lo x a b → nd L q g I B f k lo' x a b := by
  intro f k lo lo' x a b hlo h
  cases f with
  | zero => exact h
  | succ f =>
    rcases h with h | ⟨n, j, h1, h2, h3⟩
    · exact Or.inl h
    · exact Or.inr ⟨n, j, h1, by omega, h3⟩
theorem nd_ab {L : Nat} {q : Nat → Nat → Nat} {g : jG} {I : Nat → Nat → Int32} {B : Nat} {f k lo a b : Nat} {x : Option Nat} (h : nd L q g I B f k lo x a b) : a ≤ b := by
  cases f with
  | zero => have := h.2; omega
  | succ f =>
    rcases h with h | ⟨n, j, h1, h2, h3, h4, h5, h6, h7, h8, h9⟩
    · omega
    · omega
/-- one statement -/
def pStm (c : Nat → Nat) (N f k i : Nat) (q : Nat → Nat → Nat) : Bool × Nat × (Nat → Nat → Nat) :=
  match vO (pCh c N i) with
  | some v => pVar c N v (pSk c N i + 1) (qSt q)
  | none => if pCh c N i = 33 then pAl c N (pSk c N i) (pSk c N i + 1) (qSt q)
    else pGo (pHd c N (pCh c N i) (pSk c N i + 1) (qSt q)) (fun i1 q1 =>
      if k < 5 ∧ pCh c N i1 = 123 then
        pGo (pBlk c N f (k + 1) (pSk c N i1 + 1) q1) (fun i2 q2 =>
          pGo (pTk c N 125 i2 q2) (fun i3 q3 =>
            if pCh c N i = 63 ∨ pCh c N i = 43 then
              pGo (pTk c N 123 i3 (qSec q3 (q 117 35) (sortO (pCh c N i)))) (fun i4 q4 =>
                pGo (pBlk c N f (k + 1) i4 q4) (fun i5 q5 =>
                  pGo (pTk c N 125 i5 q5) (fun i6 q6 => (true, i6, qEnd q6 (q3 117 35) (sortO (pCh c N i))))))
            else (true, i3, qEnd q3 (q 117 35) (sortO (pCh c N i)))))
      else (false, pSk c N i1, q1))
theorem pGo_a (r : Bool × Nat × (Nat → Nat → Nat)) (k k' : Nat → (Nat → Nat → Nat) → Bool × Nat × (Nat → Nat → Nat)) : pGo (pGo r k) k' = pGo r (fun i q => pGo (k i q) k') := by
  rcases r with ⟨b, i, q⟩
  cases b
  · rfl
  · rfl
theorem pGo_if (p : Prop) (hp : Decidable p) (a b : Bool × Nat × (Nat → Nat → Nat)) (k : Nat → (Nat → Nat → Nat) → Bool × Nat × (Nat → Nat → Nat)) : pGo (if p then a else b) k = if p then pGo a k else pGo b k := by
  split <;> rfl
theorem pBlk_stm (c : Nat → Nat) (N f k i : Nat) (q : Nat → Nat → Nat) : pBlk c N (f + 1) k i q = if isB (pCh c N i) = false then (true, pSk c N i, q) else pGo (pStm c N f k i q) (fun i' q' => pBlk c N f k i' q') := by
  show (if isB (pCh c N i) = false then _ else _) = _
  by_cases hb : isB (pCh c N i) = false
  · rw [if_pos hb, if_pos hb]
  · rw [if_neg hb, if_neg hb]
    unfold pStm
    cases vO (pCh c N i) with
    | some v => rfl
    | none =>
      simp only [pGo_if, pGo_a, pGo_t, pGo_f]

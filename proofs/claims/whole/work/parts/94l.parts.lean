/-! PROGRAMS: what is read; the reference's parts -/
set_option maxRecDepth 100000
/-- what is read lies at the reference's places; 38, 35 8: the class's code; 1000: where a step's code begins; a mate is kept as one more -/
def qCome (q : Nat → Nat → Nat) (s a b c : Nat) : Nat → Nat → Nat := ju (ju (ju (ju (ju (ju q 138 (q 117 35) s) 139 (q 117 35) a) 140 (q 117 35) b) 141 (q 117 35) c) 142 (q 117 35) 0) 117 35 (q 117 35 + 1)
def qPart (q : Nat → Nat → Nat) (s a b : Nat) : Nat → Nat → Nat := ju (ju (ju (ju q 144 (q 117 44) s) 145 (q 117 44) a) 146 (q 117 44) b) 117 44 (q 117 44 + 1)
def qTold (q : Nat → Nat → Nat) (l : Nat) : Nat → Nat → Nat := ju (ju q 120 (q 117 48) l) 117 48 (q 117 48 + 1)
def qCode (q : Nat → Nat → Nat) (x : Nat) : Nat → Nat → Nat := ju (ju q 38 (q 35 8) x) 35 8 (q 35 8 + 1)
/-- the reference holds q -/
def rQ (q : Nat → Nat → Nat) (I : Nat → Nat → Int32) : Prop := (I 117 35 = nI (q 117 35) ∧ I 117 41 = nI (q 117 41) ∧ I 117 42 = nI (q 117 42) ∧ I 117 44 = nI (q 117 44) ∧ I 117 48 = nI (q 117 48)) ∧ (∀ k, k < q 117 35 → I 138 k = nI (q 138 k) ∧ I 139 k = nI (q 139 k) ∧ I 140 k = nI (q 140 k) ∧ I 141 k = nI (q 141 k) ∧ ∀ m, q 142 k = m + 1 → I 142 k = nI m) ∧ (∀ k, k < q 117 42 → I 143 k = nI (q 143 k)) ∧ (∀ k, k < q 117 44 → I 144 k = nI (q 144 k) ∧ I 145 k = nI (q 145 k) ∧ I 146 k = nI (q 146 k)) ∧ ∀ k, k < q 117 48 → I 120 k = nI (q 120 k)
/-- the places of a program -/
def qX (a k : Nat) : Prop := a = 120 ∨ (138 ≤ a ∧ a ≤ 146) ∨ (a = 117 ∧ (k = 35 ∨ k = 41 ∨ k = 42 ∨ k = 44 ∨ k = 48 ∨ k = 53 ∨ k = 54))
def fQ0 (I I' : Nat → Nat → Int32) : Prop := ∀ a k, ¬ qX a k → I' a k = I a k
theorem fQ0_t {I I1 I2 : Nat → Nat → Int32} (h : fQ0 I I1) (h' : fQ0 I1 I2) : fQ0 I I2 := fun a k hx => (h' a k hx).trans (h a k hx)
theorem fQ0_e {I I' : Nat → Nat → Int32} (h : eL I I') : fQ0 I I' := fun a k hx => h a k (by unfold qX at hx; omega)
/-- and the braces that are open -/
def qX1 (a k : Nat) : Prop := qX a k ∨ a = 149 ∨ a = 150 ∨ (a = 117 ∧ k = 55)
def fQ1 (I I' : Nat → Nat → Int32) : Prop := ∀ a k, ¬ qX1 a k → I' a k = I a k
theorem fQ1_t {I I1 I2 : Nat → Nat → Int32} (h : fQ1 I I1) (h' : fQ1 I1 I2) : fQ1 I I2 := fun a k hx => (h' a k hx).trans (h a k hx)
theorem fQ1_0 {I I' : Nat → Nat → Int32} (h : fQ0 I I') : fQ1 I I' := fun a k hx => h a k (fun e => hx (Or.inl e))
theorem fQ1_e {I I' : Nat → Nat → Int32} (h : eL I I') : fQ1 I I' := fQ1_0 (fQ0_e h)
theorem rQ_e {q : Nat → Nat → Nat} {I I' : Nat → Nat → Int32} (h : rQ q I) (he : eL I I') : rQ q I' := by
  obtain ⟨⟨h1, h2, h3, h4, h5⟩, h6, h7, h8, h9⟩ := h
  refine ⟨⟨?_, ?_, ?_, ?_, ?_⟩, fun k hk => ?_, fun k hk => ?_, fun k hk => ?_, fun k hk => ?_⟩
  · rw [he _ _ (by omega)]; exact h1
  · rw [he _ _ (by omega)]; exact h2
  · rw [he _ _ (by omega)]; exact h3
  · rw [he _ _ (by omega)]; exact h4
  · rw [he _ _ (by omega)]; exact h5
  · rw [he _ _ (by omega), he _ _ (by omega), he _ _ (by omega), he _ _ (by omega), he _ _ (by omega)]; exact h6 k hk
  · rw [he _ _ (by omega)]; exact h7 k hk
  · rw [he _ _ (by omega), he _ _ (by omega), he _ _ (by omega)]; exact h8 k hk
  · rw [he _ _ (by omega)]; exact h9 k hk
theorem qCode_r {q : Nat → Nat → Nat} {x a k : Nat} (h : a ≠ 38) (h' : a ≠ 35) : qCode q x a k = q a k := by unfold qCode; rw [zu_a h', zu_a h]
theorem rQ_code {q : Nat → Nat → Nat} {x : Nat} {I : Nat → Nat → Int32} (h : rQ q I) : rQ (qCode q x) I := by
  unfold rQ
  simp only [qCode_r (show (117 : Nat) ≠ 38 by omega) (show (117 : Nat) ≠ 35 by omega), qCode_r (show (138 : Nat) ≠ 38 by omega) (show (138 : Nat) ≠ 35 by omega), qCode_r (show (139 : Nat) ≠ 38 by omega) (show (139 : Nat) ≠ 35 by omega), qCode_r (show (140 : Nat) ≠ 38 by omega) (show (140 : Nat) ≠ 35 by omega), qCode_r (show (141 : Nat) ≠ 38 by omega) (show (141 : Nat) ≠ 35 by omega), qCode_r (show (142 : Nat) ≠ 38 by omega) (show (142 : Nat) ≠ 35 by omega), qCode_r (show (143 : Nat) ≠ 38 by omega) (show (143 : Nat) ≠ 35 by omega), qCode_r (show (144 : Nat) ≠ 38 by omega) (show (144 : Nat) ≠ 35 by omega), qCode_r (show (145 : Nat) ≠ 38 by omega) (show (145 : Nat) ≠ 35 by omega), qCode_r (show (146 : Nat) ≠ 38 by omega) (show (146 : Nat) ≠ 35 by omega), qCode_r (show (120 : Nat) ≠ 38 by omega) (show (120 : Nat) ≠ 35 by omega)]
  exact h
/-- letters up to the quote -/
def pLet (c : Nat → Nat) (N : Nat) : Nat → Nat → (Nat → Nat → Nat) → Bool × Nat × (Nat → Nat → Nat)
  | 0, i, q => (false, i, q)
  | f + 1, i, q => if pCh c N i = 39 then (true, pSk c N i + 1, qCode q 39) else match lO3 (pCh c N i) with
    | some l => pLet c N f (pSk c N i + 1) (qCode (qTold q l) (pCh c N i))
    | none => (false, pSk c N i, q)
/-- parts up to the semicolon -/
def pPts (c : Nat → Nat) (N fr : Nat) : Nat → Nat → (Nat → Nat → Nat) → Bool × Nat × (Nat → Nat → Nat)
  | 0, i, q => (false, i, q)
  | f + 1, i, q => if pCh c N i = 39 then (match pLet c N (N + 1) (pSk c N i + 1) (qCode q 39) with
      | (true, i', q') => pPts c N fr f i' (qPart q' 1 (q 117 48) (q' 117 48 - q 117 48))
      | (false, p, q') => (false, p, q'))
    else if 48 ≤ pCh c N i ∧ pCh c N i ≤ 51 then pPts c N fr f (pSk c N i + 1) (qCode (qPart q 2 (pCh c N i - 48) 0) (pCh c N i))
    else if pCh c N i = 59 ∧ fr < q 117 44 then (true, pSk c N i + 1, qCode q 59)
    else match vO (pCh c N i) with
      | some v => pPts c N fr f (pSk c N i + 1) (qCode (qPart q 0 v 0) (pCh c N i))
      | none => (false, pSk c N i, q)
theorem lO3_lt {x l : Nat} (h : lO3 x = some l) : l < 3 ∧ 97 ≤ x ∧ x ≤ 99 := by
  unfold lO3 at h
  split at h
  · cases h; omega
  · cases h
theorem nO_2 (x : Nat) : nO 2 x = lO3 x := by unfold nO; rw [if_neg (by omega), if_neg (by omega), if_neg (by omega)]
theorem qTold_48 (q : Nat → Nat → Nat) (l : Nat) : qTold q l 117 48 = q 117 48 + 1 := by unfold qTold; rw [zu_at]
theorem rQ_told {q : Nat → Nat → Nat} {l : Nat} {I : Nat → Nat → Int32} (h : rQ q I) : rQ (qTold q l) (ju (ju I 120 (q 117 48) (nI l)) 117 48 (nI (q 117 48 + 1))) := by
  obtain ⟨⟨h1, h2, h3, h4, h5⟩, h6, h7, h8, h9⟩ := h
  have r : ∀ a k, a ≠ 120 → ¬ (a = 117 ∧ k = 48) → qTold q l a k = q a k := fun a k a1 a2 => by unfold qTold; rw [ju_ne (by omega), ju_ne (by omega)]
  have r' : ∀ a k, a ≠ 120 → ¬ (a = 117 ∧ k = 48) → ju (ju I 120 (q 117 48) (nI l)) 117 48 (nI (q 117 48 + 1)) a k = I a k := fun a k a1 a2 => by rw [ju_ne (by omega), ju_ne (by omega)]
  refine ⟨⟨?_, ?_, ?_, ?_, ?_⟩, fun k hk => ?_, fun k hk => ?_, fun k hk => ?_, fun k hk => ?_⟩
  · rw [r _ _ (by omega) (by omega), r' _ _ (by omega) (by omega)]; exact h1
  · rw [r _ _ (by omega) (by omega), r' _ _ (by omega) (by omega)]; exact h2
  · rw [r _ _ (by omega) (by omega), r' _ _ (by omega) (by omega)]; exact h3
  · rw [r _ _ (by omega) (by omega), r' _ _ (by omega) (by omega)]; exact h4
  · rw [qTold_48, zu_at]
  · rw [r _ _ (by omega) (by omega)] at hk
    rw [r _ _ (by omega) (by omega), r _ _ (by omega) (by omega), r _ _ (by omega) (by omega), r _ _ (by omega) (by omega), r _ _ (by omega) (by omega), r' _ _ (by omega) (by omega), r' _ _ (by omega) (by omega), r' _ _ (by omega) (by omega), r' _ _ (by omega) (by omega), r' _ _ (by omega) (by omega)]
    exact h6 k hk
  · rw [r _ _ (by omega) (by omega)] at hk
    rw [r _ _ (by omega) (by omega), r' _ _ (by omega) (by omega)]; exact h7 k hk
  · rw [r _ _ (by omega) (by omega)] at hk
    rw [r _ _ (by omega) (by omega), r _ _ (by omega) (by omega), r _ _ (by omega) (by omega), r' _ _ (by omega) (by omega), r' _ _ (by omega) (by omega), r' _ _ (by omega) (by omega)]; exact h8 k hk
  · rw [qTold_48] at hk
    unfold qTold
    by_cases hkn : k = q 117 48
    · rw [hkn]; simp (disch := omega) only [zu_a, zu_at]
    · simp (disch := omega) only [zu_a, zu_k]; exact h9 k (by omega)
theorem rQ_part {q : Nat → Nat → Nat} {s a b : Nat} {I : Nat → Nat → Int32} (h : rQ q I) : rQ (qPart q s a b) (ju (ju (ju (ju I 144 (q 117 44) (nI s)) 145 (q 117 44) (nI a)) 146 (q 117 44) (nI b)) 117 44 (nI (q 117 44 + 1))) := by
  obtain ⟨⟨h1, h2, h3, h4, h5⟩, h6, h7, h8, h9⟩ := h
  have e44 : qPart q s a b 117 44 = q 117 44 + 1 := by unfold qPart; rw [zu_at]
  have r : ∀ a' k, ¬ (144 ≤ a' ∧ a' ≤ 146) → ¬ (a' = 117 ∧ k = 44) → qPart q s a b a' k = q a' k := fun a' k a1 a2 => by unfold qPart; rw [ju_ne (by omega), ju_ne (by omega), ju_ne (by omega), ju_ne (by omega)]
  have r' : ∀ a' k, ¬ (144 ≤ a' ∧ a' ≤ 146) → ¬ (a' = 117 ∧ k = 44) → ju (ju (ju (ju I 144 (q 117 44) (nI s)) 145 (q 117 44) (nI a)) 146 (q 117 44) (nI b)) 117 44 (nI (q 117 44 + 1)) a' k = I a' k := fun a' k a1 a2 => by rw [ju_ne (by omega), ju_ne (by omega), ju_ne (by omega), ju_ne (by omega)]
  refine ⟨⟨?_, ?_, ?_, ?_, ?_⟩, fun k hk => ?_, fun k hk => ?_, fun k hk => ?_, fun k hk => ?_⟩
  · rw [r _ _ (by omega) (by omega), r' _ _ (by omega) (by omega)]; exact h1
  · rw [r _ _ (by omega) (by omega), r' _ _ (by omega) (by omega)]; exact h2
  · rw [r _ _ (by omega) (by omega), r' _ _ (by omega) (by omega)]; exact h3
  · rw [e44, zu_at]
  · rw [r _ _ (by omega) (by omega), r' _ _ (by omega) (by omega)]; exact h5
  · rw [r _ _ (by omega) (by omega)] at hk
    rw [r _ _ (by omega) (by omega), r _ _ (by omega) (by omega), r _ _ (by omega) (by omega), r _ _ (by omega) (by omega), r _ _ (by omega) (by omega), r' _ _ (by omega) (by omega), r' _ _ (by omega) (by omega), r' _ _ (by omega) (by omega), r' _ _ (by omega) (by omega), r' _ _ (by omega) (by omega)]
    exact h6 k hk
  · rw [r _ _ (by omega) (by omega)] at hk
    rw [r _ _ (by omega) (by omega), r' _ _ (by omega) (by omega)]; exact h7 k hk
  · rw [e44] at hk
    unfold qPart
    by_cases hkn : k = q 117 44
    · rw [hkn]; simp (disch := omega) only [zu_a, zu_at]; exact ⟨trivial, trivial, trivial⟩
    · simp (disch := omega) only [zu_a, zu_k]; exact h8 k (by omega)
  · rw [r _ _ (by omega) (by omega)] at hk
    rw [r _ _ (by omega) (by omega), r' _ _ (by omega) (by omega)]; exact h9 k hk

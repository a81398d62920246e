/-! THE REFERENCE: an alarm -/
set_option maxRecDepth 100000
/-- an alarm at the place a0, read from i on, behind its sign -/
def pAl (c : Nat → Nat) (N a0 i : Nat) (q : Nat → Nat → Nat) : Bool × Nat × (Nat → Nat → Nat) :=
  match nO 0 (pCh c N i) with
    | none => (false, pSk c N i, q)
    | some v => (match nO 1 (pCh c N (pSk c N i + 1)) with
      | none => (false, pSk c N (pSk c N i + 1), q)
      | some w => if pCh c N (pSk c N (pSk c N i + 1) + 1) = 59 then (true, pSk c N (pSk c N (pSk c N i + 1) + 1) + 1, ju (qCome (ju q 143 (q 117 42) a0) 3 v w (q 117 42)) 117 42 (q 117 42 + 1)) else (false, pSk c N (pSk c N (pSk c N i + 1) + 1), q))
theorem rQ_al {q : Nat → Nat → Nat} {a0 v w : Nat} {x : Int32} {I : Nat → Nat → Int32} (h : rQ q I) : rQ (ju (qCome (ju q 143 (q 117 42) a0) 3 v w (q 117 42)) 117 42 (q 117 42 + 1)) (ju (ju (ju (ju (ju (ju (ju (ju I 143 (q 117 42) (nI a0)) 138 (q 117 35) (nI 3)) 139 (q 117 35) (nI v)) 140 (q 117 35) (nI w)) 141 (q 117 35) (nI (q 117 42))) 142 (q 117 35) x) 117 35 (nI (q 117 35 + 1))) 117 42 (nI (q 117 42 + 1))) := by
  obtain ⟨⟨h1, h2, h3, h4, h5⟩, h6, h7, h8, h9⟩ := h
  have e35 : ju q 143 (q 117 42) a0 117 35 = q 117 35 := zu_a (by omega)
  refine ⟨⟨?_, ?_, ?_, ?_, ?_⟩, fun k hk => ?_, fun k hk => ?_, fun k hk => ?_, fun k hk => ?_⟩
  · unfold qCome; rw [e35]; simp (disch := omega) only [zu_a, zu_k, zu_at]
  · unfold qCome; rw [e35]; simp (disch := omega) only [zu_a, zu_k, zu_at]; exact h2
  · rw [zu_at, zu_at]
  · unfold qCome; rw [e35]; simp (disch := omega) only [zu_a, zu_k, zu_at]; exact h4
  · unfold qCome; rw [e35]; simp (disch := omega) only [zu_a, zu_k, zu_at]; exact h5
  · unfold qCome at hk ⊢
    rw [e35] at hk ⊢
    simp (disch := omega) only [zu_a, zu_k, zu_at] at hk
    by_cases hkn : k = q 117 35
    · rw [hkn]
      simp (disch := omega) only [zu_a, zu_at]
      exact ⟨trivial, trivial, trivial, trivial, fun m hm => absurd hm (by omega)⟩
    · simp (disch := omega) only [zu_a, zu_k]
      exact h6 k (by omega)
  · rw [zu_at] at hk
    unfold qCome
    rw [e35]
    by_cases hkn : k = q 117 42
    · rw [hkn]; simp (disch := omega) only [zu_a, zu_at]
    · simp (disch := omega) only [zu_a, zu_k]; exact h7 k (by omega)
  · unfold qCome at hk ⊢
    rw [e35] at hk ⊢
    simp (disch := omega) only [zu_a, zu_k, zu_at] at hk ⊢
    exact h8 k hk
  · unfold qCome at hk ⊢
    rw [e35] at hk ⊢
    simp (disch := omega) only [zu_a, zu_k, zu_at] at hk ⊢
    exact h9 k hk

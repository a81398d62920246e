/-! THE REFERENCE: closes -/
set_option maxRecDepth 100000
theorem rQ_mate {q : Nat → Nat → Nat} {s m : Nat} {I : Nat → Nat → Int32} (h : rQ q I) : rQ (qMate q s m) (ju I 142 s (nI m)) := by
  obtain ⟨⟨h1, h2, h3, h4, h5⟩, h6, h7, h8, h9⟩ := h
  unfold qMate
  refine ⟨⟨?_, ?_, ?_, ?_, ?_⟩, fun k hk => ?_, fun k hk => ?_, fun k hk => ?_, fun k hk => ?_⟩
  · simp (disch := omega) only [zu_a]; exact h1
  · simp (disch := omega) only [zu_a]; exact h2
  · simp (disch := omega) only [zu_a]; exact h3
  · simp (disch := omega) only [zu_a]; exact h4
  · simp (disch := omega) only [zu_a]; exact h5
  · simp (disch := omega) only [zu_a] at hk ⊢
    obtain ⟨y1, y2, y3, y4, y5⟩ := h6 k hk
    refine ⟨y1, y2, y3, y4, fun m' hm => ?_⟩
    by_cases hks : k = s
    · rw [hks, zu_at] at hm ⊢
      rw [show m' = m by omega]
    · rw [zu_k hks] at hm ⊢
      exact y5 m' hm
  · simp (disch := omega) only [zu_a] at hk ⊢; exact h7 k hk
  · simp (disch := omega) only [zu_a] at hk ⊢; exact h8 k hk
  · simp (disch := omega) only [zu_a] at hk ⊢; exact h9 k hk

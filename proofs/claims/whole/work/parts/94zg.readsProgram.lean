/-! THE REFERENCE: readsProgram -/
set_option maxRecDepth 100000
/-- the program of a text -/
def pPrg (c : Nat → Nat) (N : Nat) : Bool × Nat × (Nat → Nat → Nat) := pGo (pBlk c N (N + 1) 0 0 (fun _ _ => 0)) (fun i q => if pCh c N i = 255 then (true, i, q) else (false, pSk c N i, q))
section MM
variable (d L : Nat) (g : jG) {J : Nat → Nat → Int64}
theorem r_readsProgram {c : Nat → Nat} {N : Nat} {I : Nat → Nat → Int32} (hN : N ≤ 120) (hc : ∀ i, i < N → c i < 128) (h52 : I 117 52 = nI N) (h148 : ∀ j, j < N → I 148 j = nI (c j)) : (∃ i' q' I', pPrg c N = (true, i', q') ∧ fQ1 I I' ∧ rQ q' I' ∧ pBd N q' ∧ jcall (d + 8) 212 [.ref 117] (jGs L g, I, J) = some (some (.int (nI 1)), (jGs L g, I', J))) ∨ (∃ p q' I', pPrg c N = (false, p, q') ∧ fQ1 I I' ∧ I' 117 53 = nI p ∧ p ≤ N ∧ jcall (d + 8) 212 [.ref 117] (jGs L g, I, J) = some (some (.int (nI 0)), (jGs L g, I', J))) := by
  have start : jcall (d + 8) 212 [.ref 117] (jGs L g, I, J) = jval (d + 7) 212 40 [.ref 117] [] (jGs L g, ju (ju (ju (ju (ju (ju (ju (ju I 117 53 (nI 0)) 117 54 (nI 0)) 117 35 (nI 0)) 117 41 (nI 0)) 117 42 (nI 0)) 117 44 (nI 0)) 117 48 (nI 0)) 117 55 (nI 0), J) := by
    rw [c_TextValuesModel_readsProgram, e_TextValuesModel_readsProgram_0, jif_t (Or.inl rfl)]
    rfl
  rw [start]
  generalize hI0 : ju (ju (ju (ju (ju (ju (ju (ju I 117 53 (nI 0)) 117 54 (nI 0)) 117 35 (nI 0)) 117 41 (nI 0)) 117 42 (nI 0)) 117 44 (nI 0)) 117 48 (nI 0)) 117 55 (nI 0) = I0
  have f0 : fQ1 I I0 := fun a k hx => by
    unfold qX1 qX at hx
    rw [← hI0, ju_ne (by omega), ju_ne (by omega), ju_ne (by omega), ju_ne (by omega), ju_ne (by omega), ju_ne (by omega), ju_ne (by omega), ju_ne (by omega)]
  have l0 : lR c N 0 false I0 := by
    refine ⟨⟨?_, fun j hj => ?_, ?_⟩, ?_⟩ <;> rw [← hI0]
    · simp (disch := omega) only [zu_k, zu_a]; exact h52
    · simp (disch := omega) only [zu_k, zu_a]; exact h148 j hj
    · simp (disch := omega) only [zu_k, zu_a, zu_at]
    · simp (disch := omega) only [zu_k, zu_a, zu_at]; rfl
  have q0 : rQ (fun _ _ => 0) I0 := by
    refine ⟨⟨?_, ?_, ?_, ?_, ?_⟩, fun k hk => absurd hk (Nat.not_lt_zero k), fun k hk => absurd hk (Nat.not_lt_zero k), fun k hk => absurd hk (Nat.not_lt_zero k), fun k hk => absurd hk (Nat.not_lt_zero k)⟩ <;> rw [← hI0] <;> simp (disch := omega) only [zu_k, zu_a, zu_at]
  have h55 : I0 117 55 = nI 0 := by rw [← hI0, zu_at]
  -- behind a fault
  have bad : ∀ p I', lR c N p true I' → jval (d + 7) 212 40 [.ref 117] [] (jGs L g, I', J) = some (some (.int (nI 0)), (jGs L g, I', J)) := by
    intro p I' h
    rw [e_TextValuesModel_readsProgram_40, h.2, jif_f (by decide), e_TextValuesModel_readsProgram_69, h.2, jif_f (by decide), e_TextValuesModel_readsProgram_81, jif_t (Or.inl rfl)]
    rfl
  unfold pPrg
  rcases r_blk d L g (J := J) hN hc (N + 1) 0 0 (fun _ _ => 0) I0 (by omega) (by omega) (by omega) l0 q0 h55 ⟨Nat.le_refl 0, Nat.le_refl 0, Nat.le_refl 0, Nat.le_refl 0⟩ with ⟨i0, i', q', I', z1, z2, z3, z4, z5, z6, z7, z8, z9, z10, z11, z12⟩ | ⟨p, q', I', z1, z2, z3, z4, z5⟩
  · obtain ⟨k1, k2⟩ := pSk_pSk c N i0 z4
    rw [z2] at k1 k2
    rw [z1, pGo_t]
    by_cases h255 : pCh c N i' = 255
    · rw [if_pos h255]
      obtain ⟨I1, a1, a2, a3⟩ := r_hereL (d + 6) L g (J := J) hN hc z4 z7
      refine Or.inl ⟨i', q', I1, rfl, fQ1_t f0 (fQ1_t z6 (fQ1_e a1)), rQ_e z8 a1, ?_, ?_⟩
      · obtain ⟨v1, v2, v3, v4⟩ := z11
        exact ⟨by omega, by omega, by omega, by omega⟩
      · rw [z12, e_TextValuesModel_readsProgram_40, z7.2, jif_t (by decide), z9, jif_f (by decide), a3, jcI_some, e_TextValuesModel_readsProgram_58, jif_t (hV_end (by rw [← k2]; exact h255) hc), e_TextValuesModel_readsProgram_69, a2.2, jif_t (by decide), e_TextValuesModel_readsProgram_81, jif_t (Or.inr rfl)]
        rfl
    · rw [if_neg h255]
      obtain ⟨I1, a1, a2, a3⟩ := r_lp_bad (d + 5) L g (J := J) hN hc z4 z7 z8 z9 (by omega) (Or.inr (by rw [← k2]; exact h255)) (Or.inr rfl) z5
      rw [z2] at a2
      rw [k1]
      refine Or.inr ⟨i', q', I1, rfl, fQ1_t f0 (fQ1_t z6 (fQ1_0 a1)), a2.1.2.2, ?_, ?_⟩
      · rw [← z2]; exact (pSk_le z4).2
      · rw [z12, a3]; exact bad _ _ a2
  · rw [z1, pGo_f]
    exact Or.inr ⟨p, q', I', rfl, fQ1_t f0 z2, z3.1.2.2, z4, by rw [z5]; exact bad _ _ z3⟩
end MM

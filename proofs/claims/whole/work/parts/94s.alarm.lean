/-! THE REFERENCE: an alarm -/
set_option maxRecDepth 100000
/-- an alarm at the place a0, read from i on, behind its sign -/
def pAl (c : Nat → Nat) (N a0 i : Nat) (q : Nat → Nat → Nat) : Bool × Nat × (Nat → Nat → Nat) :=
  match nO 0 (pCh c N i) with
    | none => (false, pSk c N i, q)
    | some v => (match nO 1 (pCh c N (pSk c N i + 1)) with
      | none => (false, pSk c N (pSk c N i + 1), q)
      | some w => if pCh c N (pSk c N (pSk c N i + 1) + 1) = 59 then (true, pSk c N (pSk c N (pSk c N i + 1) + 1) + 1, ju (qCome (ju q 143 (q 117 42) a0) 3 v w (q 117 42)) 117 42 (q 117 42 + 1)) else (false, pSk c N (pSk c N (pSk c N i + 1) + 1), q))
theorem rQ_al {q : Nat → Nat → Nat} {a0 v w : Nat} {x : Int32} {I : Nat → Nat → Int32} (h : rQ q I) : rQ (ju (qCome (ju q 143 (q 117 42) a0) 3 v w (q 117 42)) 117 42 (q 117 42 + 1)) (ju (ju (ju (ju (ju (ju (ju (ju I 143 (q 117 42) (nI a0)) 138 (q 117 35) (nI 3)) 139 (q 117 35) (nI v)) 140 (q 117 35) (nI w)) 141 (q 117 35) (nI (q 117 42))) 142 (q 117 35) x) 117 35 (nI (q 117 35 + 1))) 117 42 (nI (q 117 42 + 1))) := by
  obtain ⟨⟨h1, h2, h3, h4, h5⟩, h6, h7, h8, h9⟩ := h
  have e35 : ju q 143 (q 117 42) a0 117 35 = q 117 35 := zu_a (by omega)
  refine ⟨⟨?_, ?_, ?_, ?_, ?_⟩, fun k hk => ?_, fun k hk => ?_, fun k hk => ?_, fun k hk => ?_⟩
  · unfold qCome; rw [e35]; simp (disch := omega) only [zu_a, zu_k, zu_at]
  · unfold qCome; rw [e35]; simp (disch := omega) only [zu_a, zu_k, zu_at]; exact h2
  · rw [zu_at, zu_at]
  · unfold qCome; rw [e35]; simp (disch := omega) only [zu_a, zu_k, zu_at]; exact h4
  · unfold qCome; rw [e35]; simp (disch := omega) only [zu_a, zu_k, zu_at]; exact h5
  · unfold qCome at hk ⊢
    rw [e35] at hk ⊢
    simp (disch := omega) only [zu_a, zu_k, zu_at] at hk
    by_cases hkn : k = q 117 35
    · rw [hkn]
      simp (disch := omega) only [zu_a, zu_at]
      exact ⟨trivial, trivial, trivial, trivial, fun m hm => absurd hm (by omega)⟩
    · simp (disch := omega) only [zu_a, zu_k]
      exact h6 k (by omega)
  · rw [zu_at] at hk
    unfold qCome
    rw [e35]
    by_cases hkn : k = q 117 42
    · rw [hkn]; simp (disch := omega) only [zu_a, zu_at]
    · simp (disch := omega) only [zu_a, zu_k]; exact h7 k (by omega)
  · unfold qCome at hk ⊢
    rw [e35] at hk ⊢
    simp (disch := omega) only [zu_a, zu_k, zu_at] at hk ⊢
    exact h8 k hk
  · unfold qCome at hk ⊢
    rw [e35] at hk ⊢
    simp (disch := omega) only [zu_a, zu_k, zu_at] at hk ⊢
    exact h9 k hk
section MM
variable (d L : Nat) (g : jG) {J : Nat → Nat → Int64}
theorem r_al_30f {c : Nat → Nat} {N p : Nat} {s pm a t : Nat} {x1 x2 x3 y : Int32} {I : Nat → Nat → Int32} (h : lR c N p true I) (hz : zC s pm a t I) (hs : s < 130) (ha : a < 40) : ∃ I', fQ0 I I' ∧ lR c N p true I' ∧ zC (s + 1) pm (a + 1) t I' ∧ jval (d + 1) 207 30 [.ref 117, .int x1, .int x2, .int x3] [.int y] (jGs L g, I, J) = some (none, (jGs L g, I', J)) := by
  have hz1 : zC s pm a t (ju I 143 a x1) := ⟨by rw [zu_a (by omega)]; exact hz.1, by rw [zu_a (by omega)]; exact hz.2.1, by rw [zu_a (by omega)]; exact hz.2.2.1, by rw [zu_a (by omega)]; exact hz.2.2.2⟩
  have hl1 : lR c N p true (ju I 143 a x1) := lR_p h (fun a' k hak => ju_ne (by omega))
  obtain ⟨I2, b1, b2, b3, -, -, b4⟩ := r_comes_f d L g (J := J) (w := 3) (x := x2) (y := x3) (z := nI a) hz1 hl1 hs
  refine ⟨ju I2 117 42 (nI (a + 1)), fun a' k hx => ?_, lR_p b2 (fun a' k hak => ju_ne (by omega)), ⟨by rw [zu_k (by omega)]; exact b3.1, by rw [zu_k (by omega)]; exact b3.2.1, zu_at _ _ _ _, by rw [zu_k (by omega)]; exact b3.2.2.2⟩, ?_⟩
  · rw [ju_ne (by unfold qX at hx; omega), b1 a' k hx, ju_ne (by unfold qX at hx; omega)]
  · rw [e_TextValuesModel_readsAlarm_30, hz.2.2.1, jin_nI (by omega) (by omega), nI_c (by omega), cond_true, b4, jcI_some, e_TextValuesModel_readsAlarm_52, b3.2.2.1, nI_1]
theorem r_al_23f {c : Nat → Nat} {N p : Nat} {s pm a t : Nat} {x1 x2 y : Int32} {I : Nat → Nat → Int32} (h : lR c N p true I) (hz : zC s pm a t I) (hs : s < 130) (ha : a < 40) : ∃ I', fQ0 I I' ∧ lR c N p true I' ∧ zC (s + 1) pm (a + 1) t I' ∧ jval (d + 1) 207 23 [.ref 117, .int x1, .int x2, jjunk] [.int y] (jGs L g, I, J) = some (none, (jGs L g, I', J)) := by
  obtain ⟨I1, a1, a2, a3⟩ := r_takes_f d L g (J := J) (x := 59) h
  obtain ⟨I2, b1, b2, b3, b4⟩ := r_al_30f d L g (J := J) (x1 := x1) (x2 := x2) (x3 := y) (y := nI 0) a2 (zC_e hz a1) hs ha
  refine ⟨I2, fQ0_t (fQ0_e a1) b1, b2, b3, ?_⟩
  rw [e_TextValuesModel_readsAlarm_23, a3, jcI_some]
  exact b4
theorem r_al_17f {c : Nat → Nat} {N p : Nat} {s pm a t : Nat} {x1 y : Int32} {I : Nat → Nat → Int32} (h : lR c N p true I) (hz : zC s pm a t I) (hs : s < 130) (ha : a < 40) : ∃ I', fQ0 I I' ∧ lR c N p true I' ∧ zC (s + 1) pm (a + 1) t I' ∧ jval (d + 3) 207 17 [.ref 117, .int x1, jjunk, jjunk] [.int y] (jGs L g, I, J) = some (none, (jGs L g, I', J)) := by
  obtain ⟨I1, a1, a2, a3⟩ := r_number_f d L g (J := J) (s := 1) (by omega) h
  obtain ⟨I2, b1, b2, b3, b4⟩ := r_al_23f (d + 2) L g (J := J) (x1 := x1) (x2 := y) (y := -1) a2 (zC_e hz a1) hs ha
  refine ⟨I2, fQ0_t (fQ0_e a1) b1, b2, b3, ?_⟩
  rw [e_TextValuesModel_readsAlarm_17, show (1 : Int32) = nI 1 from rfl, a3, jcI_some]
  exact b4
end MM

/-! THE REFERENCE: a statement that begins with a variable -/
set_option maxRecDepth 100000
/-- a variable's statement, behind the variable -/
def pVar (c : Nat → Nat) (N v i : Nat) (q : Nat → Nat → Nat) : Bool × Nat × (Nat → Nat → Nat) :=
  if pCh c N i = 61 then (match pPts c N (q 117 44) (N + 1) (pSk c N i + 1) q with
    | (true, i', q') => (true, i', ju (qCome q' 1 (q 117 44) (q' 117 44) v) 1000 (q 117 35) (q 35 8))
    | (false, p, q') => (false, p, q'))
  else if pCh c N i = 47 then (match nO 2 (pCh c N (pSk c N i + 1)) with
    | none => (false, pSk c N (pSk c N i + 1), q)
    | some a => (match nO 3 (pCh c N (pSk c N (pSk c N i + 1) + 1)) with
      | none => (false, pSk c N (pSk c N (pSk c N i + 1) + 1), q)
      | some b => if pCh c N (pSk c N (pSk c N (pSk c N i + 1) + 1) + 1) = 59 then (true, pSk c N (pSk c N (pSk c N (pSk c N i + 1) + 1) + 1) + 1, qCome q 2 v a b) else (false, pSk c N (pSk c N (pSk c N (pSk c N i + 1) + 1) + 1), q)))
  else (false, pSk c N i, q)
theorem rQ_1000 {q : Nat → Nat → Nat} {k x : Nat} {I : Nat → Nat → Int32} (h : rQ q I) : rQ (ju q 1000 k x) I := by
  have r : ∀ a j, a ≠ 1000 → ju q 1000 k x a j = q a j := fun a j ha => zu_a ha
  unfold rQ
  simp only [r 117 _ (by omega), r 138 _ (by omega), r 139 _ (by omega), r 140 _ (by omega), r 141 _ (by omega), r 142 _ (by omega), r 143 _ (by omega), r 144 _ (by omega), r 145 _ (by omega), r 146 _ (by omega), r 120 _ (by omega)]
  exact h
section MM
variable (d L : Nat) (g : jG) {J : Nat → Nat → Int64}
/-- the end of an exchange behind a fault -/
theorem r_ov_55f {c : Nat → Nat} {N p : Nat} {s pm a t : Nat} {x1 x2 x3 y : Int32} {I : Nat → Nat → Int32} (h : lR c N p true I) (hz : zC s pm a t I) (hs : s < 130) : ∃ I', fQ0 I I' ∧ lR c N p true I' ∧ zC (s + 1) pm a t I' ∧ jval (d + 1) 206 55 [.ref 117, .int x1, .int x2, .int x3] [.int y] (jGs L g, I, J) = some (none, (jGs L g, I', J)) := by
  obtain ⟨I2, b1, b2, b3, -, -, b4⟩ := r_comes_f d L g (J := J) (w := 2) (x := x1) (y := x2) (z := x3) hz h hs
  refine ⟨I2, b1, b2, b3, ?_⟩
  rw [e_TextValuesModel_ofVariable_55, b4, jcI_some, e_TextValuesModel_ofVariable_64, e_TextValuesModel_ofVariable_65]
theorem r_ov_48f {c : Nat → Nat} {N p : Nat} {s pm a t : Nat} {x1 x2 y : Int32} {I : Nat → Nat → Int32} (h : lR c N p true I) (hz : zC s pm a t I) (hs : s < 130) : ∃ I', fQ0 I I' ∧ lR c N p true I' ∧ zC (s + 1) pm a t I' ∧ jval (d + 1) 206 48 [.ref 117, .int x1, .int x2, jjunk] [.int y] (jGs L g, I, J) = some (none, (jGs L g, I', J)) := by
  obtain ⟨I1, a1, a2, a3⟩ := r_takes_f d L g (J := J) (x := 59) h
  obtain ⟨I2, b1, b2, b3, b4⟩ := r_ov_55f d L g (J := J) (x1 := x1) (x2 := x2) (x3 := y) (y := nI 0) a2 (zC_e hz a1) hs
  refine ⟨I2, fQ0_t (fQ0_e a1) b1, b2, b3, ?_⟩
  rw [e_TextValuesModel_ofVariable_48, a3, jcI_some]
  exact b4
theorem r_ov_42f {c : Nat → Nat} {N p : Nat} {s pm a t : Nat} {x1 y : Int32} {I : Nat → Nat → Int32} (h : lR c N p true I) (hz : zC s pm a t I) (hs : s < 130) : ∃ I', fQ0 I I' ∧ lR c N p true I' ∧ zC (s + 1) pm a t I' ∧ jval (d + 3) 206 42 [.ref 117, .int x1, jjunk, jjunk] [.int y] (jGs L g, I, J) = some (none, (jGs L g, I', J)) := by
  obtain ⟨I1, a1, a2, a3⟩ := r_number_f d L g (J := J) (s := 3) (by omega) h
  obtain ⟨I2, b1, b2, b3, b4⟩ := r_ov_48f (d + 2) L g (J := J) (x1 := x1) (x2 := y) (y := -1) a2 (zC_e hz a1) hs
  refine ⟨I2, fQ0_t (fQ0_e a1) b1, b2, b3, ?_⟩
  rw [e_TextValuesModel_ofVariable_42, show (3 : Int32) = nI 3 from rfl, a3, jcI_some]
  exact b4
theorem r_ov_36f {c : Nat → Nat} {N p : Nat} {s pm a t : Nat} {x1 y : Int32} {I : Nat → Nat → Int32} (h : lR c N p true I) (hz : zC s pm a t I) (hs : s < 130) : ∃ I', fQ0 I I' ∧ lR c N p true I' ∧ zC (s + 1) pm a t I' ∧ jval (d + 3) 206 36 [.ref 117, .int x1, jjunk, jjunk] [.int y] (jGs L g, I, J) = some (none, (jGs L g, I', J)) := by
  obtain ⟨I1, a1, a2, a3⟩ := r_number_f d L g (J := J) (s := 2) (by omega) h
  obtain ⟨I2, b1, b2, b3, b4⟩ := r_ov_42f d L g (J := J) (x1 := x1) (y := -1) a2 (zC_e hz a1) hs
  refine ⟨I2, fQ0_t (fQ0_e a1) b1, b2, b3, ?_⟩
  rw [e_TextValuesModel_ofVariable_36, show (2 : Int32) = nI 2 from rfl, a3, jcI_some]
  exact b4
end MM

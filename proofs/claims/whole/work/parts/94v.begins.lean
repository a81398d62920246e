/-! THE REFERENCE: begins -/
set_option maxRecDepth 100000
def sortO (x : Nat) : Nat := if x = 63 then 4 else if x = 35 then 6 else if x = 43 then 5 else 7
/-- the head of a statement with braces, behind its sign x -/
def pHd (c : Nat → Nat) (N x i : Nat) (q : Nat → Nat → Nat) : Bool × Nat × (Nat → Nat → Nat) :=
  if x = 63 ∨ x = 35 then (match nO 0 (pCh c N i) with
    | none => (false, pSk c N i, q)
    | some v => (match nO 1 (pCh c N (pSk c N i + 1)) with
      | none => (false, pSk c N (pSk c N i + 1), q)
      | some w => (true, pSk c N (pSk c N i + 1) + 1, qCome q (sortO x) v w 0)))
  else (true, i, qCome q (sortO x) 0 0 0)
section MM
variable (d L : Nat) (g : jG) {J : Nat → Nat → Int64}
theorem r_bg_51 {x : Nat} {x3 xs : Int32} {I : Nat → Nat → Int32} (hx : x = 63 ∨ x = 35 ∨ x = 43 ∨ x = 42) : jval d 210 51 [.ref 117, .int (nI x), jjunk, .int x3, jjunk, jjunk] [.int xs] (jGs L g, I, J) = jval d 210 86 [.ref 117, jjunk, jjunk, .int x3, .int xs, jjunk] [.int (nI (sortO x))] (jGs L g, I, J) := by
  rw [e_TextValuesModel_begins_51]
  rcases hx with e | e | e | e <;> subst e
  · rw [jif_t (by decide)]; rfl
  · rw [jif_f (by decide), jif_t (by decide)]; rfl
  · rw [jif_f (by decide), jif_f (by decide), jif_t (by decide)]; rfl
  · rw [jif_f (by decide), jif_f (by decide), jif_f (by decide)]; rfl
/-- behind a fault -/
theorem r_bg_86f {c : Nat → Nat} {N p s pm a t : Nat} {x3 x4 xs : Int32} {I : Nat → Nat → Int32} (h : lR c N p true I) (hz : zC s pm a t I) (hs : s < 130) : ∃ I', fQ0 I I' ∧ lR c N p true I' ∧ zC (s + 1) pm a t I' ∧ jval (d + 2) 210 86 [.ref 117, jjunk, jjunk, .int x3, .int x4, jjunk] [.int xs] (jGs L g, I, J) = some (none, (jGs L g, I', J)) := by
  obtain ⟨I1, a1, a2, a3, -, -, a4⟩ := r_comes_f (d + 1) L g (J := J) (w := xs) (x := x3) (y := x4) (z := 0) hz h hs
  obtain ⟨I2, b1, b2, b3⟩ := r_opens_f d L g (J := J) (x := nI s) (y := 0) a2
  refine ⟨I2, fQ0_t a1 (fQ0_e b1), b2, zC_e a3 b1, ?_⟩
  rw [e_TextValuesModel_begins_86, a4, jcI_some, e_TextValuesModel_begins_99, b3, jcV_some, e_TextValuesModel_begins_103]
end MM

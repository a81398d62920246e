/-! PROGRAMS: a block is read -/
set_option maxRecDepth 100000
def qMate (q : Nat → Nat → Nat) (s m : Nat) : Nat → Nat → Nat := ju q 142 s (m + 1)
/-- the second part of step s begins; the braces of step s end -/
def qSec (q : Nat → Nat → Nat) (s so : Nat) : Nat → Nat → Nat := qMate (qCome q 8 (q 139 s) (q 140 s) so) s (q 117 35)
def qEnd (q : Nat → Nat → Nat) (s so : Nat) : Nat → Nat → Nat := qMate (qMate (qCome q 9 (q 139 s) (q 140 s) so) s (q 117 35)) (q 117 35) s
/-- a sign that begins a statement -/
def isB (x : Nat) : Bool := (vO x).isSome || decide (x = 33 ∨ x = 63 ∨ x = 35 ∨ x = 43 ∨ x = 42)
def qSt (q : Nat → Nat → Nat) : Nat → Nat → Nat := ju q 117 41 (q 117 41 + 1)
/-- what is read goes on, or it is a fault -/
def pGo (r : Bool × Nat × (Nat → Nat → Nat)) (k : Nat → (Nat → Nat → Nat) → Bool × Nat × (Nat → Nat → Nat)) : Bool × Nat × (Nat → Nat → Nat) := if r.1 = true then k r.2.1 r.2.2 else r
/-- one sign -/
def pTk (c : Nat → Nat) (N x i : Nat) (q : Nat → Nat → Nat) : Bool × Nat × (Nat → Nat → Nat) := if pCh c N i = x then (true, pSk c N i + 1, q) else (false, pSk c N i, q)
/-- the statements from i on, k braces deep -/
def pBlk (c : Nat → Nat) (N : Nat) : Nat → Nat → Nat → (Nat → Nat → Nat) → Bool × Nat × (Nat → Nat → Nat)
  | 0, _, i, q => (false, i, q)
  | f + 1, k, i, q =>
    if isB (pCh c N i) = false then (true, pSk c N i, q)
    else match vO (pCh c N i) with
      | some v => pGo (pVar c N v (pSk c N i + 1) (qSt q)) (fun i' q' => pBlk c N f k i' q')
      | none => if pCh c N i = 33 then pGo (pAl c N (pSk c N i) (pSk c N i + 1) (qSt q)) (fun i' q' => pBlk c N f k i' q')
        else pGo (pHd c N (pCh c N i) (pSk c N i + 1) (qSt q)) (fun i1 q1 =>
          if k < 5 ∧ pCh c N i1 = 123 then
            pGo (pBlk c N f (k + 1) (pSk c N i1 + 1) q1) (fun i2 q2 =>
              pGo (pTk c N 125 i2 q2) (fun i3 q3 =>
                if pCh c N i = 63 ∨ pCh c N i = 43 then
                  pGo (pTk c N 123 i3 (qSec q3 (q 117 35) (sortO (pCh c N i)))) (fun i4 q4 =>
                    pGo (pBlk c N f (k + 1) i4 q4) (fun i5 q5 =>
                      pGo (pTk c N 125 i5 q5) (fun i6 q6 => pBlk c N f k i6 (qEnd q6 (q3 117 35) (sortO (pCh c N i))))))
                else pBlk c N f k i3 (qEnd q3 (q 117 35) (sortO (pCh c N i)))))
          else (false, pSk c N i1, q1))

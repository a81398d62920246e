/-! ANALYSIS: what a program does with languages -/
set_option maxRecDepth 100000
theorem vText_0 (t : Nat → Nat) : vText t 0 = kEp := by
  have h1 : ∀ w, kG (nxS t 0) (enS 0) 1 w = false := by
    intro w
    induction w with
    | nil => rfl
    | cons l w ih =>
      show kG (nxS t 0) (enS 0) (nxS t 0 1 l) w = false
      rw [show nxS t 0 1 l = 1 by unfold nxS; rw [if_neg (by omega)]]
      exact ih
  have h0 : ∀ w, kW w → kL kEp 0 w = kG (nxS t 0) (enS 0) 0 w := by
    intro w hw
    cases w with
    | nil => rfl
    | cons l w =>
      have e1 : kG (nxS t 0) (enS 0) 0 (l :: w) = false := by
        show kG (nxS t 0) (enS 0) (nxS t 0 0 l) w = false
        rw [show nxS t 0 0 l = 1 by unfold nxS; rw [if_neg (by omega)]]
        exact h1 w
      have e2 : kL kEp 0 (l :: w) = false := by
        cases hh : kL kEp 0 (l :: w) with
        | false => rfl
        | true => have := (kL_ep hw).mp hh; cases this
      rw [e1, e2]
  unfold vText
  rw [if_neg (by omega), kMk_some kEp_V h0]
  rfl
theorem vPair_comm (A B : kA) : vPair 0 A B = vPair 0 B A := by
  unfold vPair
  congr 1
  congr 1
  funext w
  show (kL A 0 w || kL B 0 w) = (kL B 0 w || kL A 0 w)
  exact Bool.or_comm _ _
abbrev yV : Type := Nat → kA
/-- all rounds, most rounds, the smallest texts of the alarms -/
abbrev yG : Type := Nat × Nat × (Nat → Option (List Nat))
noncomputable def yCm (A B : kA) : Option (List Nat) := Classical.epsilon (fun o => lsP (nxP A B) (enP (mHow 1) A B) 0 o)
theorem yCm_eq {A B : kA} {o : Option (List Nat)} (h : lsP (nxP A B) (enP (mHow 1) A B) 0 o) : yCm A B = o := lsP_uniq (Classical.epsilon_spec (p := fun o => lsP (nxP A B) (enP (mHow 1) A B) 0 o) ⟨o, h⟩) h
def yLx : List Nat → List Nat → Bool
  | x :: w, y :: u => if x = y then yLx w u else decide (x < y)
  | _, _ => false
def yLs (w u : List Nat) : Bool := decide (w.length < u.length) || (decide (w.length = u.length) && yLx w u)
def yRg (o r : Option (List Nat)) : Option (List Nat) := match o with
  | none => r
  | some w => match r with
    | none => some w
    | some u => if yLs w u = true then some w else some u
noncomputable def yPt (q : Nat → Nat → Nat) (P : Nat → kA) (V : yV) (k : Nat) : kA := if q 144 k = 0 then V (q 145 k) else if q 144 k = 1 then vText (fun i => q 120 (q 145 k + i)) (q 146 k) else P (q 145 k)
noncomputable def yCh (q : Nat → Nat → Nat) (P : Nat → kA) (V : yV) : Nat → Nat → kA → kA
  | 0, _, A => A
  | n + 1, k, A => yCh q P V n (k + 1) (vChain A (yPt q P V k))
noncomputable def ySet (q : Nat → Nat → Nat) (P : Nat → kA) (V : yV) (a : Nat) : kA := yCh q P V (q 140 a - q 139 a - 1) (q 139 a + 1) (yPt q P V (q 139 a))
noncomputable def yAsk (m : Nat) (P : Nat → kA) (V : yV) (v i : Nat) : Option yV := jif (vPair m (V v) (P i) = kNo) none (some (jup V v (vPair m (V v) (P i))))
/-- where step a tests: both (1), less (2) -/
noncomputable def yTs (m : Nat) (q : Nat → Nat → Nat) (P : Nat → kA) (a : Nat) (V : yV) : Option yV := if q 138 a = 4 ∨ q 138 a = 6 then yAsk m P V (q 139 a) (q 140 a) else some V
noncomputable def yJn (s t : Option yV) : Option yV := match s with
  | none => t
  | some V => match t with
    | none => some V
    | some W => some (fun v => vPair 0 (V v) (W v))
noncomputable def yJ1 (H V : yV) (v : Nat) : kA := vPair 0 (H v) (V v)
noncomputable def yG1 (D W r : Nat) (H V : yV) (v : Nat) : kA := jif (yJ1 H V v = H v) (H v) (if 20 ≤ r then kAll else if D ≤ r then vWid (yJ1 H V v) W else yJ1 H V v)
/-- whether one of the first n changes -/
noncomputable def yOt (H V : yV) : Nat → Bool
  | 0 => false
  | n + 1 => yOt H V n || jb (¬ yJ1 H V n = H n)
noncomputable def yLoop (B : Option yV → yG → Option yV × yG) (st : yV → Option yV) (D W : Nat) : Nat → Nat → yV → yG → yV × yG × Nat
  | 0, r, H, G => (H, G, r)
  | n + 1, r, H, G => match B (st H) G with
    | (none, G1) => (H, G1, r + 1)
    | (some V, G1) => if yOt H V 4 = true then yLoop B st D W n (r + 1) (fun v => if v < 4 then yG1 D W r H V v else H v) G1 else (H, G1, r + 1)
def yRn (n : Nat) (G : yG) : yG := (G.1 + n, max G.2.1 n, G.2.2)
noncomputable def yRing (q : Nat → Nat → Nat) (P : Nat → kA) (V : yV) (a : Nat) (G : yG) : yG := (G.1, G.2.1, jup G.2.2 (q 141 a) (yRg (yCm (V (q 139 a)) (P (q 140 a))) (G.2.2 (q 141 a))))
/-- the steps a to b -/
noncomputable def yBlk (q : Nat → Nat → Nat) (P : Nat → kA) (D W : Nat) : Nat → Nat → Nat → Option yV → yG → Option yV × yG
  | 0 => fun _ _ s G => (s, G)
  | f + 1 => fun a b s G => if a = b then (s, G) else match s with
    | none => (none, G)
    | some V =>
      if q 138 a = 1 then yBlk q P D W f (a + 1) b (some (jup V (q 141 a) (ySet q P V a))) G
      else if q 138 a = 2 then yBlk q P D W f (a + 1) b (some (jup V (q 139 a) (vEx (V (q 139 a)) (q 140 a) (q 141 a)))) G
      else if q 138 a = 3 then yBlk q P D W f (a + 1) b (some V) (yRing q P V a G)
      else if q 138 a = 4 ∨ q 138 a = 5 then
        yBlk q P D W f (q 142 (q 142 a - 1) - 1 + 1) b (yJn (yBlk q P D W f (a + 1) (q 142 a - 1) (yTs 1 q P a V) G).1 (yBlk q P D W f (q 142 a - 1 + 1) (q 142 (q 142 a - 1) - 1) (yTs 2 q P a V) (yBlk q P D W f (a + 1) (q 142 a - 1) (yTs 1 q P a V) G).2).1) (yBlk q P D W f (q 142 a - 1 + 1) (q 142 (q 142 a - 1) - 1) (yTs 2 q P a V) (yBlk q P D W f (a + 1) (q 142 a - 1) (yTs 1 q P a V) G).2).2
      else
        yBlk q P D W f (q 142 a - 1 + 1) b (yTs 2 q P a (yLoop (yBlk q P D W f (a + 1) (q 142 a - 1)) (yTs 1 q P a) D W 25 0 V G).1) (yRn (yLoop (yBlk q P D W f (a + 1) (q 142 a - 1)) (yTs 1 q P a) D W 25 0 V G).2.2 (yLoop (yBlk q P D W f (a + 1) (q 142 a - 1)) (yTs 1 q P a) D W 25 0 V G).2.1)
theorem yBlk_none (q : Nat → Nat → Nat) (P : Nat → kA) (D W : Nat) (f a b : Nat) (G : yG) : yBlk q P D W f a b none G = (none, G) := by
  cases f with
  | zero => rfl
  | succ f =>
    show (if a = b then (none, G) else (none, G)) = (none, G)
    split <;> rfl
/-! how long a loop may go on -/
def yNA (H : yV) : Nat → Nat → Prop
  | 0, _ => True
  | n + 1, m => (H n = kAll ∧ yNA H n m) ∨ (∃ m', m = m' + 1 ∧ yNA H n m')
theorem kAll_J {B : kA} : vPair 0 kAll B = kAll := by
  unfold vPair
  have hL : ∀ w, kW w → kL kAll 0 w = mHow 0 (kL kAll 0 w) (kL B 0 w) := by
    intro w hw
    have h1 : ∀ w : List Nat, kL kAll 0 w = true := by
      intro w
      induction w with
      | nil => rfl
      | cons l w ih => exact ih
    rw [h1 w]
    rfl
  rw [kMk_some kAll_V hL]
  rfl

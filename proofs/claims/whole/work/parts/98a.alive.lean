/-! TOP: a pattern's language has a text -/
set_option maxRecDepth 100000
def pth (bh : Nat → Nat) (la n : Nat) : Nat → List Nat → Prop
  | p, [] => p < n ∧ la.testBit p = true
  | p, p' :: w => p < n ∧ (bh p).testBit p' = true ∧ pth bh la n p' w
def alv (bh : Nat → Nat) (n : Nat) (t : pT) : Prop := t.1 = true ∨ ∃ p w, t.2.1.testBit p = true ∧ pth bh t.2.2 n p w
theorem pth_m {bh bh' : Nat → Nat} {la la' n n' : Nat} (hb : ∀ p j, (bh p).testBit j = true → (bh' p).testBit j = true) (hl : ∀ j, la.testBit j = true → la'.testBit j = true) (hn : n ≤ n') : ∀ w p, pth bh la n p w → pth bh' la' n' p w := by
  intro w
  induction w with
  | nil => intro p h; exact ⟨by have := h.1; omega, hl _ h.2⟩
  | cons p' w ih => intro p h; exact ⟨by have := h.1; omega, hb _ _ h.2.1, ih p' h.2.2⟩
theorem pth_a {bh : Nat → Nat} {la la2 n f : Nat} {u : List Nat} (hb : ∀ p, la.testBit p = true → (bh p).testBit f = true) (hu : pth bh la2 n f u) : ∀ w p, pth bh la n p w → pth bh la2 n p (w ++ f :: u) := by
  intro w
  induction w with
  | nil => intro p h; exact ⟨h.1, hb p h.2, hu⟩
  | cons p' w ih => intro p h; exact ⟨h.1, h.2.1, ih p' h.2.2⟩
theorem alv_m {bh bh' : Nat → Nat} {n n' : Nat} {t : pT} (hb : ∀ p j, (bh p).testBit j = true → (bh' p).testBit j = true) (hn : n ≤ n') (h : alv bh n t) : alv bh' n' t := by
  rcases h with h | ⟨p, w, h1, h2⟩
  · exact Or.inl h
  · exact Or.inr ⟨p, w, h1, pth_m hb (fun _ h => h) hn w p h2⟩
theorem alv_or {bh : Nat → Nat} {n : Nat} {x y : pT} (h : alv bh n y) : alv bh n (orT x y) := by
  rcases h with h | ⟨p, w, h1, h2⟩
  · exact Or.inl (by show (x.1 || y.1) = true; rw [h, Bool.or_true])
  · refine Or.inr ⟨p, w, ?_, pth_m (fun _ _ h => h) (fun j h => ?_) (Nat.le_refl _) w p h2⟩
    · show (x.2.1 ||| y.2.1).testBit p = true
      rw [Nat.testBit_or, h1, Bool.or_true]
    · show (x.2.2 ||| y.2.2).testBit j = true
      rw [Nat.testBit_or, h, Bool.or_true]
theorem flw_m (bh : Nat → Nat) (la fi p j : Nat) (h : (bh p).testBit j = true) : (flw bh la fi p).testBit j = true := by
  unfold flw
  split
  · rw [Nat.testBit_or, h, Bool.true_or]
  · exact h
theorem alv_lay {bh : Nat → Nat} {n : Nat} {y f : pT} (hy : alv bh n y) (hf : alv bh n f) : alv (flw bh y.2.2 f.2.1) n (lay y f) := by
  have hy' := alv_m (flw_m bh y.2.2 f.2.1) (Nat.le_refl n) hy
  have hf' := alv_m (flw_m bh y.2.2 f.2.1) (Nat.le_refl n) hf
  rcases hy' with hy1 | ⟨p, w, p1, p2⟩
  · rcases hf' with hf1 | ⟨p, w, p1, p2⟩
    · exact Or.inl (by show (y.1 && f.1) = true; rw [hy1, hf1]; rfl)
    · refine Or.inr ⟨p, w, ?_, pth_m (fun _ _ h => h) (fun j h => ?_) (Nat.le_refl _) w p p2⟩
      · show (y.2.1 ||| (if y.1 = true then f.2.1 else 0)).testBit p = true
        rw [if_pos hy1, Nat.testBit_or, p1, Bool.or_true]
      · show (f.2.2 ||| _).testBit j = true
        rw [Nat.testBit_or, h, Bool.true_or]
  · rcases hf' with hf1 | ⟨p', u, q1, q2⟩
    · refine Or.inr ⟨p, w, ?_, pth_m (fun _ _ h => h) (fun j h => ?_) (Nat.le_refl _) w p p2⟩
      · show (y.2.1 ||| _).testBit p = true
        rw [Nat.testBit_or, p1, Bool.true_or]
      · show (f.2.2 ||| (if f.1 = true then y.2.2 else 0)).testBit j = true
        rw [if_pos hf1, Nat.testBit_or, h, Bool.or_true]
    · refine Or.inr ⟨p, w ++ p' :: u, ?_, ?_⟩
      · show (y.2.1 ||| _).testBit p = true
        rw [Nat.testBit_or, p1, Bool.true_or]
      · refine pth_a (fun x hx => ?_) (pth_m (fun _ _ h => h) (fun j h => ?_) (Nat.le_refl _) u p' q2) w p p2
        · show (flw bh y.2.2 f.2.1 x).testBit p' = true
          unfold flw
          rw [if_pos hx, Nat.testBit_or, q1, Bool.or_true]
        · show (f.2.2 ||| _).testBit j = true
          rw [Nat.testBit_or, h, Bool.true_or]
def pA (S : pS) : Prop := (∀ k, alv S.2.2.2.2.2.1 S.2.2.2.2.1 (S.2.2.2.1 k)) ∧ (∀ f, S.2.1 = some f → alv S.2.2.2.2.2.1 S.2.2.2.2.1 f) ∧ ∀ p, p < S.2.2.2.2.1 → ∃ l, l < 3 ∧ (S.2.2.2.2.2.2 l).testBit p = true
theorem alv_j {bh : Nat → Nat} {n k j : Nat} {X : Nat → pT} {t : pT} (h : ∀ k, alv bh n (X k)) (ht : alv bh n t) : alv bh n (jup X j t k) := by
  by_cases hk : k = j
  · rw [hk, jup_s]; exact ht
  · rw [jup_n hk]; exact h k
theorem pA_stl {S : pS} (h : pA S) : pA (stl S) := by
  obtain ⟨d, p, X, Y, n, bh, ol⟩ := S
  obtain ⟨h1, h2, h3⟩ := h
  cases p with
  | none => exact ⟨h1, h2, h3⟩
  | some f => exact ⟨fun k => alv_j (fun k => alv_m (flw_m bh (Y d).2.2 f.2.1) (Nat.le_refl _) (h1 k)) (alv_lay (h1 d) (h2 f rfl)), fun f e => (by cases e), h3⟩
theorem pA_act {S S' : pS} {c : Nat} (h : pA S) (he : act S c = some S') : pA S' := by
  obtain ⟨d, p, X, Y, n, bh, ol⟩ := S
  obtain ⟨h1, h2, h3⟩ := h
  unfold act at he
  split at he
  · cases he
    exact ⟨fun k => alv_j h1 (Or.inl rfl), fun f e => (by cases e), h3⟩
  · split at he
    · split at he
      · cases he
      · cases he
        exact ⟨h1, fun f e => by cases e; exact alv_or (h1 d), h3⟩
    · split at he
      · cases he
        exact ⟨fun k => alv_j h1 (Or.inl rfl), fun f e => (by cases e), h3⟩
      · split at he
        · rename_i hc
          split at he
          · cases he
          · cases he
            refine ⟨fun k => alv_m (fun _ _ h => h) (Nat.le_succ n) (h1 k), fun f e => ?_, fun p hp => ?_⟩
            · cases e
              exact Or.inr ⟨n, [], by show (2 ^ n).testBit n = true; rw [Nat.testBit_two_pow_self], by show n < n + 1; omega, by show (2 ^ n).testBit n = true; rw [Nat.testBit_two_pow_self]⟩
            · have hp' : p < n + 1 := hp
              by_cases e : p = n
              · subst e
                have hc' : c = 46 ∨ c = 97 ∨ c = 98 ∨ c = 99 := of_decide_eq_true hc
                have : ∃ l, l < 3 ∧ (c = 46 ∨ c = 97 + l) := by
                  rcases hc' with e | e | e | e
                  · exact ⟨0, by omega, by omega⟩
                  · exact ⟨0, by omega, by omega⟩
                  · exact ⟨1, by omega, by omega⟩
                  · exact ⟨2, by omega, by omega⟩
                obtain ⟨l, l1, l2⟩ := this
                refine ⟨l, l1, ?_⟩
                show (adL ol c p l).testBit p = true
                unfold adL
                rw [if_pos l2, Nat.testBit_or, Nat.testBit_two_pow_self, Bool.or_true]
              · obtain ⟨l, l1, l2⟩ := h3 p (by show p < n; omega)
                refine ⟨l, l1, ?_⟩
                show (adL ol c n l).testBit p = true
                unfold adL
                split
                · rw [Nat.testBit_or, show (ol l).testBit p = true from l2, Bool.true_or]
                · exact l2
        · cases he
theorem pA_tk {S S' : pS} {c : Nat} (h : pA S) (he : tk S c = some S') : pA S' := by
  unfold tk at he
  split at he
  · cases hp : S.2.1 with
    | none => rw [hp] at he; cases he
    | some f =>
      rw [hp] at he
      cases he
      have hm : ∀ p j, (S.2.2.2.2.2.1 p).testBit j = true → ((if c = 42 then flw S.2.2.2.2.2.1 f.2.2 f.2.1 else S.2.2.2.2.2.1) p).testBit j = true := by
        intro p j hj
        split
        · exact flw_m _ _ _ _ _ hj
        · exact hj
      exact pA_stl (S := (S.1, some (true, f.2.1, f.2.2), S.2.2.1, S.2.2.2.1, S.2.2.2.2.1, (if c = 42 then flw S.2.2.2.2.2.1 f.2.2 f.2.1 else S.2.2.2.2.2.1), S.2.2.2.2.2.2)) ⟨fun k => alv_m hm (Nat.le_refl _) (h.1 k), fun f' e => by cases e; exact Or.inl rfl, h.2.2⟩
  · exact pA_act (pA_stl h) he
theorem pA_rn (c : Nat → Nat) : ∀ f i S S' p, pA S → rn c f i S = (some S', p) → pA S' := by
  intro f
  induction f with
  | zero =>
    intro i S S' p h he
    unfold rn at he
    split at he
    · cases he; exact pA_stl h
    · cases he
  | succ f ih =>
    intro i S S' p h he
    unfold rn at he
    split at he
    · exact ih _ _ _ _ h he
    · cases ht : tk S (c i) with
      | none => rw [ht] at he; cases he
      | some S1 => rw [ht] at he; exact ih _ _ _ _ (pA_tk h ht) he
theorem pA_0 : pA pS0 := ⟨fun _ => Or.inl rfl, fun f e => (by cases e), fun p hp => absurd hp (by show ¬ p < 0; omega)⟩
theorem pth_G {bh ol : Nat → Nat} {fi la n : Nat} {em : Bool} (hn : n ≤ 10) (hol : ∀ p, p < n → ∃ l, l < 3 ∧ (ol l).testBit p = true) : ∀ w p k, pth bh la n p w → k.testBit p = true → ∃ u, kW u ∧ kG (nxF bh ol fi) (enF la em) k u = true := by
  intro w
  induction w with
  | nil =>
    intro p k h hk
    refine ⟨[], kW_nil, ?_⟩
    show (decide (0 < k &&& la) || _) = true
    have : (k &&& la).testBit p = true := by rw [Nat.testBit_and, hk, h.2]; rfl
    have h0 : 0 < k &&& la := by
      rcases Nat.eq_zero_or_pos (k &&& la) with e | e
      · rw [e, Nat.zero_testBit] at this; cases this
      · exact e
    rw [decide_eq_true h0, Bool.true_or]
  | cons p' w ih =>
    intro p k h hk
    have hp' : p' < n := by
      cases w with
      | nil => exact h.2.2.1
      | cons _ _ => exact h.2.2.1
    obtain ⟨l, l1, l2⟩ := hol p' hp'
    obtain ⟨u, u1, u2⟩ := ih p' (nxF bh ol fi k l) h.2.2 (by
      unfold nxF
      rw [Nat.testBit_and, Nat.testBit_or, l2, Bool.and_true, (kNr_bit bh k p' 10).mpr ⟨p, by have := h.1; omega, hk, h.2.1⟩, Bool.or_true])
    exact ⟨l :: u, kW_cons l1 u1, u2⟩
theorem alv_L {bh ol : Nat → Nat} {n : Nat} {t : pT} (hn : n ≤ 10) (hol : ∀ p, p < n → ∃ l, l < 3 ∧ (ol l).testBit p = true) (h : alv bh n t) : ∃ u, kW u ∧ kL (vPat bh ol t.2.1 t.2.2 t.1) 0 u = true := by
  have hG : ∃ u, kW u ∧ kG (nxF bh ol t.2.1) (enF t.2.2 t.1) 1024 u = true := by
    rcases h with h | ⟨p, w, h1, h2⟩
    · refine ⟨[], kW_nil, ?_⟩
      show (_ || (decide (0 < 1024 &&& 1024) && t.1)) = true
      rw [h, show decide (0 < 1024 &&& 1024) = true from rfl, Bool.true_and, Bool.or_true]
    · have hp : p < n := by
        cases w with
        | nil => exact h2.1
        | cons _ _ => exact h2.1
      obtain ⟨l, l1, l2⟩ := hol p hp
      obtain ⟨u, u1, u2⟩ := pth_G (fi := t.2.1) (em := t.1) hn hol w p (nxF bh ol t.2.1 1024 l) h2 (by
        unfold nxF
        rw [if_pos (by decide), Nat.testBit_and, Nat.testBit_or, h1, l2]
        rfl)
      exact ⟨l :: u, kW_cons l1 u1, u2⟩
  obtain ⟨u, u1, u2⟩ := hG
  refine ⟨u, u1, ?_⟩
  unfold vPat
  cases hk : kMk (kG (nxF bh ol t.2.1) (enF t.2.2 t.1) 1024) with
  | none => exact kL_all u
  | some A => show kL A 0 u = true; rw [(kMk_V hk).2 u u1]; exact u2
theorem sm_ge {A : kA} : ∀ f n m, n ≤ m → m < n + f → cnt A m 0 ≤ sm A f n := by
  intro f
  induction f with
  | zero => intro n m h1 h2; omega
  | succ f ih =>
    intro n m h1 h2
    show cnt A m 0 ≤ cnt A n 0 + sm A f (n + 1)
    by_cases e : m = n
    · rw [e]; omega
    · have := ih (n + 1) m (by omega) (by omega)
      omega
theorem sm_pos {A : kA} (hA : kV A) {u : List Nat} (hu : kW u) (h : kL A 0 u = true) : 0 < sm A 220 0 := by
  have h0 : 0 < cnt A u.length 0 := (cnt_pos _ _).mpr ⟨u, hu, rfl, h⟩
  have : ∀ n, 0 < cnt A n 0 → ∃ m, m < 10 ∧ 0 < cnt A m 0 := by
    intro n
    induction n using Nat.strongRecOn with
    | ind n ih =>
      intro hc
      by_cases h10 : n < 10
      · exact ⟨n, h10, hc⟩
      · obtain ⟨m, m1, m2, m3⟩ := pump hA hA.1.1.1 hc (by omega)
        exact ih m m2 m3
  obtain ⟨m, m1, m2⟩ := this _ h0
  have := sm_ge (A := A) 220 0 m (by omega) (by omega)
  omega
theorem sm_P6 {c : Nat → Nat} {N p : Nat} {S : pS} (hB : pB S) (h : rn c N 0 pS0 = (some S, p)) : 0 < sm (vP6 S) 220 0 := by
  have hA := pA_rn c N 0 pS0 S p pA_0 h
  obtain ⟨u, u1, u2⟩ := alv_L (t := orT (S.2.2.1 0) (S.2.2.2.1 0)) hB.1 hA.2.2 (alv_or (hA.1 0))
  exact sm_pos (vPat_V _ _ _ _ _) u1 u2
theorem sm_all : 0 < sm kAll 220 0 := sm_pos kAll_V kW_nil rfl

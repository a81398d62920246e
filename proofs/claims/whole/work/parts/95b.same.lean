/-! ANALYSIS: a loop ends; the reference's areSame -/
set_option maxRecDepth 100000
noncomputable def yN (H : yV) : Nat → Nat
  | 0 => 0
  | n + 1 => yN H n + jif (H n = kAll) 0 1
theorem yN_le (H : yV) : ∀ n, yN H n ≤ n := by
  intro n
  induction n with
  | zero => exact Nat.le_refl 0
  | succ n ih =>
    show yN H n + jif (H n = kAll) 0 1 ≤ n + 1
    by_cases h : H n = kAll
    · rw [jif_t h]; omega
    · rw [jif_f h]; omega
theorem yOt_no (H V : yV) : ∀ n, yN H n = 0 → yOt H V n = false := by
  intro n
  induction n with
  | zero => intro _; rfl
  | succ n ih =>
    intro h
    have h' : yN H n + jif (H n = kAll) 0 1 = 0 := h
    by_cases ha : H n = kAll
    · show (yOt H V n || jb (¬ yJ1 H V n = H n)) = false
      rw [ih (by omega)]
      have hj : yJ1 H V n = H n := by unfold yJ1; rw [ha]; exact kAll_J
      cases hb : jb (¬ yJ1 H V n = H n) with
      | false => rfl
      | true => exact absurd hj (jb_t.mp hb)
    · rw [jif_f ha] at h'; omega
theorem yN_dn (D W r : Nat) (H V H' : yV) (hr : 20 ≤ r) : ∀ n, (∀ v, v < n → H' v = yG1 D W r H V v) → yN H' n ≤ yN H n ∧ (yOt H V n = true → yN H' n + 1 ≤ yN H n) := by
  intro n
  induction n with
  | zero => intro _; exact ⟨Nat.le_refl _, fun h => Bool.noConfusion h⟩
  | succ n ih =>
    intro hv
    obtain ⟨i1, i2⟩ := ih (fun v hv' => hv v (by omega))
    have hn := hv n (by omega)
    show yN H' n + jif (H' n = kAll) 0 1 ≤ yN H n + jif (H n = kAll) 0 1 ∧ ((yOt H V n || jb (¬ yJ1 H V n = H n)) = true → yN H' n + jif (H' n = kAll) 0 1 + 1 ≤ yN H n + jif (H n = kAll) 0 1)
    unfold yG1 at hn
    by_cases hs : yJ1 H V n = H n
    · rw [jif_t hs] at hn
      rw [hn]
      refine ⟨by omega, fun ho => ?_⟩
      have hb : jb (¬ yJ1 H V n = H n) = false := by
        cases hb : jb (¬ yJ1 H V n = H n) with
        | false => rfl
        | true => exact absurd hs (jb_t.mp hb)
      rw [hb, Bool.or_false] at ho
      have := i2 ho
      omega
    · rw [jif_f hs, if_pos hr] at hn
      have hna : ¬ H n = kAll := fun ha => hs (by unfold yJ1; rw [ha]; exact kAll_J)
      rw [jif_t hn, jif_f hna]
      exact ⟨by omega, fun _ => by omega⟩
section MM
variable (d L : Nat) (g : jG) {J : Nat → Nat → Int64} {I : Nat → Nat → Int32}
theorem r_areSame {a b : Nat} {A B : kA} (hA : mR I a A) (hB : mR I b B) (vA : kV A) (vB : kV B) : jcall (d + 2) 168 [.ref 117, .int (nI a), .int (nI b)] (jGs L g, I, J) = some (some (.int (bI (jb (A = B)))), (jGs L g, I, J)) := by
  obtain ⟨a1, a2, a3, a4, a5, a6, a7⟩ := hA
  obtain ⟨b1, b2, b3, b4, b5, b6, b7⟩ := hB
  have loop : ∀ n c x, c + n = 2 + 3 * A.1 → (x = true ↔ ∀ c', c' < c → I 119 (32 * a + c') = I 119 (32 * b + c')) → jval (d + 1) 168 5 [.ref 117, .int (nI a), .int (nI b), .int (bI x), .int (nI c)] [] (jGs L g, I, J) = some (some (.int (bI (jb (∀ c', c' < 2 + 3 * A.1 → I 119 (32 * a + c') = I 119 (32 * b + c'))))), (jGs L g, I, J)) := by
    intro n
    induction n with
    | zero =>
      intro c x hc hx
      have hc' : c = 2 + 3 * A.1 := by omega
      have ex : x = jb (∀ c', c' < 2 + 3 * A.1 → I 119 (32 * a + c') = I 119 (32 * b + c')) := by
        rw [hc'] at hx
        cases hb : jb (∀ c', c' < 2 + 3 * A.1 → I 119 (32 * a + c') = I 119 (32 * b + c')) with
        | true => exact hx.mpr (jb_t.mp hb)
        | false =>
          cases x with
          | false => rfl
          | true => exact absurd (jb_t.mpr (hx.mp rfl)) (by rw [hb]; exact fun e => Bool.noConfusion e)
      rw [e_TextValuesModel_areSame_5, s_size d L g I J a1, jcI_some, a4, e_TextValuesModel_areSame_14, show (2 : Int32) = nI 2 from rfl, show (3 : Int32) = nI 3 from rfl, nI_mul, nI_add, jif_t (nI_le (by omega) (by omega)), bI_01, ← ex]
    | succ n ih =>
      intro c x hc hx
      have go : ∀ y : Bool, (y = true ↔ ∀ c', c' < c + 1 → I 119 (32 * a + c') = I 119 (32 * b + c')) → jval (d + 1) 168 55 [.ref 117, .int (nI a), .int (nI b), jjunk, .int (nI c)] [.int (bI y)] (jGs L g, I, J) = some (some (.int (bI (jb (∀ c', c' < 2 + 3 * A.1 → I 119 (32 * a + c') = I 119 (32 * b + c'))))), (jGs L g, I, J)) := by
        intro y hy
        rw [e_TextValuesModel_areSame_55, nI_1]
        exact ih (c + 1) y (by omega) hy
      have no : ¬ (∀ c', c' < c + 1 → I 119 (32 * a + c') = I 119 (32 * b + c')) → jval (d + 1) 168 54 [.ref 117, .int (nI a), .int (nI b), jjunk, .int (nI c)] [] (jGs L g, I, J) = some (some (.int (bI (jb (∀ c', c' < 2 + 3 * A.1 → I 119 (32 * a + c') = I 119 (32 * b + c'))))), (jGs L g, I, J)) := by
        intro hn
        rw [e_TextValuesModel_areSame_54]
        exact go false ⟨fun h => Bool.noConfusion h, fun h => absurd h hn⟩
      rw [e_TextValuesModel_areSame_5, s_size d L g I J a1, jcI_some, a4, e_TextValuesModel_areSame_14, show (2 : Int32) = nI 2 from rfl, show (3 : Int32) = nI 3 from rfl, nI_mul, nI_add, jif_f (nI_ge (by omega) (by omega)), show (32 : Int32) = nI 32 from rfl, nI_mul, nI_mul, nI_add, nI_add, jin_nI (by omega) (by omega), jin_nI (by omega) (by omega), nI_c (by omega), nI_c (by omega), cond_true, cond_true]
      cases x with
      | false =>
        rw [jif_t (by decide)]
        exact no (fun h => by have := hx.mpr (fun c' hc' => h c' (by omega)); exact Bool.noConfusion this)
      | true =>
        rw [jif_f (by decide)]
        by_cases he : I 119 (32 * a + c) = I 119 (32 * b + c)
        · rw [jif_t he]
          exact go true ⟨fun _ c' hc' => by
            by_cases hcc : c' = c
            · rw [hcc]; exact he
            · exact hx.mp rfl c' (by omega), fun _ => rfl⟩
        · rw [jif_f he]
          exact no (fun h => he (h c (by omega)))
  have hiff : (∀ c', c' < 2 + 3 * A.1 → I 119 (32 * a + c') = I 119 (32 * b + c')) = (A = B) := by
    apply propext
    constructor
    · intro h
      have e0 := h 0 (by omega)
      have e1 := h 1 (by omega)
      rw [Nat.add_zero, Nat.add_zero, a4, b4] at e0
      rw [a5, b5] at e1
      have s1 : A.1 = B.1 := (nI_eq (by omega) (by omega)).mp e0
      have kA10 := kEm_lt10 vA
      have kB10 := kEm_lt10 vB
      have s2 : kEm A.2.1 A.1 = kEm B.2.1 B.1 := (nI_eq (by omega) (by omega)).mp e1
      refine kA_ext vA.2.2 vB.2.2 s1 (fun q hq => ?_) (fun q hq l hl => ?_)
      · have h1 := kEm_bit A.2.1 q A.1
        have h2 := kEm_bit B.2.1 q B.1
        rw [s2, h2, decide_eq_true hq, decide_eq_true (show q < B.1 by omega), Bool.true_and, Bool.true_and] at h1
        exact h1.symm
      · have h1 := h (2 + 3 * q + l) (by omega)
        rw [show 32 * a + (2 + 3 * q + l) = 32 * a + 2 + 3 * q + l by omega, show 32 * b + (2 + 3 * q + l) = 32 * b + 2 + 3 * q + l by omega, a6 q hq l hl, b6 q (by omega) l hl] at h1
        have w1 := a3.2 q hq l hl
        have w2 := b3.2 q (by omega) l hl
        exact (nI_eq (by omega) (by omega)).mp h1
    · intro e c' hc'
      subst e
      by_cases h0 : c' = 0
      · rw [h0, Nat.add_zero, Nat.add_zero, a4, b4]
      · by_cases h1 : c' = 1
        · rw [h1, a5, b5]
        · have hq : (c' - 2) / 3 < A.1 := by omega
          have hl : (c' - 2) % 3 < 3 := by omega
          have ec : c' = 2 + 3 * ((c' - 2) / 3) + (c' - 2) % 3 := by omega
          rw [ec, show 32 * a + (2 + 3 * ((c' - 2) / 3) + (c' - 2) % 3) = 32 * a + 2 + 3 * ((c' - 2) / 3) + (c' - 2) % 3 by omega, show 32 * b + (2 + 3 * ((c' - 2) / 3) + (c' - 2) % 3) = 32 * b + 2 + 3 * ((c' - 2) / 3) + (c' - 2) % 3 by omega, a6 _ hq _ hl, b6 _ hq _ hl]
  rw [c_TextValuesModel_areSame, e_TextValuesModel_areSame_0, ← hiff]
  exact loop (2 + 3 * A.1) 0 true (by omega) ⟨fun _ c' hc' => absurd hc' (by omega), fun _ => rfl⟩
end MM

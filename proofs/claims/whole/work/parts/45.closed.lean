/-! THE REFERENCE: what a letter that becomes nothing leads to; similar remainders -/
set_option maxRecDepth 100000
/-- k times the letter p -/
def kIt (A : kA) (p : Nat) : Nat → Nat → Nat
  | 0, i => i
  | k + 1, i => A.2.2 (kIt A p k i) p
theorem kIt_lt {A : kA} (h : kWf A) {p : Nat} (hp : p < 3) {i : Nat} (hi : i < A.1) : ∀ k, kIt A p k i < A.1
  | 0 => hi
  | k + 1 => h.2 _ (kIt_lt h hp hi k) p hp
/-- the states that some p's lead to from m's -/
def kIsCl (A : kA) (p m c : Nat) : Prop := c < 2 ^ A.1 ∧ ∀ j, c.testBit j = true ↔ ∃ i k, m.testBit i = true ∧ kIt A p k i = j
theorem kbit_lt {m b j : Nat} (hm : m < 2 ^ b) (h : m.testBit j = true) : j < b := by
  apply Classical.byContradiction
  intro hj
  rw [Nat.testBit_lt_two_pow (Nat.lt_of_lt_of_le hm (Nat.pow_le_pow_right (by omega) (by omega)))] at h
  cases h
section MM
variable (d L : Nat) (g : jG) {I : Nat → Nat → Int32} (J : Nat → Nat → Int64)
theorem r_closed_no {x : Int32} (ht : I 117 6 ≠ 3) : jcall (d + 3) 171 [.ref 117, .int x] (jGs L g, I, J) = some (some (.int x), (jGs L g, I, J)) := by
  rw [c_TextValuesModel_closed, e_TextValuesModel_closed_0, e_TextValuesModel_closed_4, jif_f ht, e_TextValuesModel_closed_38]
theorem r_closed_loop {one p m : Nat} {A : kA} (hA : mR I one A) (h1 : I 117 3 = nI one) (h2 : I 117 5 = nI p) (hp : p < 3) (h3 : I 117 6 = 3) :
    ∀ N o (hd : Int32), 2 ^ A.1 - o ≤ N → o < 2 ^ A.1 → (∀ j, m.testBit j = true → o.testBit j = true) → (∀ j, o.testBit j = true → ∃ i k, m.testBit i = true ∧ kIt A p k i = j) → (nI o = hd → o ||| kMv (fun r => A.2.2 r p) o A.1 = o) → ∃ c, kIsCl A p m c ∧ jval (d + 2) 171 4 [.ref 117, jjunk, .int (nI o), .int hd] [] (jGs L g, I, J) = some (some (.int (nI c)), (jGs L g, I, J)) := by
  have h10 := hA.2.1
  have hw := hA.2.2.1
  have hpow : 2 ^ A.1 ≤ 1024 := Nat.pow_le_pow_right (n := 2) (by omega) h10
  intro N
  induction N with
  | zero => intro o hd hN ho; omega
  | succ N ih =>
    intro o hd hN ho hmo hom hst
    by_cases hq : nI o = hd
    · have hfix := hst hq
      refine ⟨o, ⟨ho, fun j => ⟨hom j, ?_⟩⟩, ?_⟩
      · rintro ⟨i, k, hi, hk⟩
        have key : ∀ k, o.testBit (kIt A p k i) = true := by
          intro k
          induction k with
          | zero => exact hmo i hi
          | succ k ihk =>
            rw [← hfix, Nat.testBit_or, Bool.or_eq_true]
            right
            exact (kMv_bit _ _ _ _).mpr ⟨kIt A p k i, kbit_lt ho ihk, ihk, rfl⟩
        rw [← hk]; exact key k
      · rw [e_TextValuesModel_closed_4, jif_t h3, jif_t hq, e_TextValuesModel_closed_38]
    · have hmv : kMv (fun r => A.2.2 r p) o A.1 < 2 ^ A.1 := kMv_lt (fun r hr => hw.2 r hr p hp)
      have ho' : (o ||| kMv (fun r => A.2.2 r p) o A.1) < 2 ^ A.1 := Nat.or_lt_two_pow ho hmv
      have hle : o ≤ o ||| kMv (fun r => A.2.2 r p) o A.1 := Nat.left_le_or
      have hmo' : ∀ j, m.testBit j = true → (o ||| kMv (fun r => A.2.2 r p) o A.1).testBit j = true := fun j hj => by
        rw [Nat.testBit_or, hmo j hj, Bool.true_or]
      have hom' : ∀ j, (o ||| kMv (fun r => A.2.2 r p) o A.1).testBit j = true → ∃ i k, m.testBit i = true ∧ kIt A p k i = j := by
        intro j hj
        rw [Nat.testBit_or, Bool.or_eq_true] at hj
        rcases hj with hj | hj
        · exact hom j hj
        · obtain ⟨r, hr1, hr2, hr3⟩ := (kMv_bit _ _ _ _).mp hj
          obtain ⟨i, k, hi, hk⟩ := hom r hr2
          exact ⟨i, k + 1, hi, by show A.2.2 (kIt A p k i) p = j; rw [hk]; exact hr3⟩
      have step : jval (d + 2) 171 4 [.ref 117, jjunk, .int (nI o), .int hd] [] (jGs L g, I, J) = jval (d + 2) 171 4 [.ref 117, jjunk, .int (nI (o ||| kMv (fun r => A.2.2 r p) o A.1)), .int (nI o)] [] (jGs L g, I, J) := by
        rw [e_TextValuesModel_closed_4, jif_t h3, jif_f hq, h1, h2, r_moved d L g J hA hp, jcI_some, e_TextValuesModel_closed_33, nx_or]
      rw [step]
      by_cases hs : o ||| kMv (fun r => A.2.2 r p) o A.1 = o
      · rw [hs]
        refine ⟨o, ⟨ho, fun j => ⟨hom j, ?_⟩⟩, ?_⟩
        · rintro ⟨i, k, hi, hk⟩
          have key : ∀ k, o.testBit (kIt A p k i) = true := by
            intro k
            induction k with
            | zero => exact hmo i hi
            | succ k ihk =>
              rw [← hs, Nat.testBit_or, Bool.or_eq_true]
              right
              exact (kMv_bit _ _ _ _).mpr ⟨kIt A p k i, kbit_lt ho ihk, ihk, rfl⟩
          rw [← hk]; exact key k
        · rw [e_TextValuesModel_closed_4, jif_t h3, jif_t rfl, e_TextValuesModel_closed_38]
      · exact ih _ _ (by omega) ho' hmo' hom' (fun e => absurd ((nI_eq (by omega) (by omega)).mp e) hs)
theorem r_closed {one p m : Nat} {A : kA} (hA : mR I one A) (h1 : I 117 3 = nI one) (h2 : I 117 5 = nI p) (hp : p < 3) (h3 : I 117 6 = 3) (hm : m < 2 ^ A.1) : ∃ c, kIsCl A p m c ∧ jcall (d + 3) 171 [.ref 117, .int (nI m)] (jGs L g, I, J) = some (some (.int (nI c)), (jGs L g, I, J)) := by
  have h10 := hA.2.1
  have hpow : 2 ^ A.1 ≤ 1024 := Nat.pow_le_pow_right (n := 2) (by omega) h10
  obtain ⟨c, hc, h⟩ := r_closed_loop d L g J hA h1 h2 hp h3 (m := m) (2 ^ A.1) m (-1) (by omega) hm (fun j hj => hj) (fun j hj => ⟨j, 0, hj, rfl⟩) (fun e => by
    have h4 : (nI m).toInt = (-1 : Int32).toInt := by rw [e]
    rw [nI_toInt (by omega)] at h4
    have h5 : (-1 : Int32).toInt = -1 := by decide
    omega)
  refine ⟨c, hc, ?_⟩
  rw [c_TextValuesModel_closed, e_TextValuesModel_closed_0]
  exact h
/-- the rows of similar remainders, joined -/
def kNr (f : Nat → Nat) (m : Nat) : Nat → Nat
  | 0 => 0
  | r + 1 => kNr f m r ||| (if m.testBit r = true then f r else 0)
theorem r_neared_loop {one m : Nat} {A : kA} {f : Nat → Nat} (hA : mR I one A) (h1 : I 117 3 = nI one) (hf : ∀ r, r < A.1 → I 121 r = nI (f r)) : ∀ n r, r + n = A.1 → jval (d + 1) 172 4 [.ref 117, .int (nI m), .int (nI (kNr f m r)), .int (nI r)] [] (jGs L g, I, J) = some (some (.int (nI (kNr f m A.1))), (jGs L g, I, J)) := by
  have h10 := hA.2.1
  intro n
  induction n with
  | zero =>
    intro r hr
    have : r = A.1 := by omega
    subst this
    rw [e_TextValuesModel_neared_4, h1, r_size d L g J hA, jcI_some, e_TextValuesModel_neared_13, jif_t (nI_le (Nat.le_refl _) (by omega))]
  | succ n ih =>
    intro r hr
    have hn := ih (r + 1) (by omega)
    rw [e_TextValuesModel_neared_4, h1, r_size d L g J hA, jcI_some, e_TextValuesModel_neared_13, jif_f (nI_ge (by omega) (by omega)), nI_tst (show r < 32 by omega)]
    by_cases hb : m.testBit r = true
    · rw [jif_t (by rw [hb]; decide), jin_nI (by omega) (by omega), nI_c (by omega), hf r (by omega)]
      show jval (d + 1) 172 36 _ _ _ = _
      rw [e_TextValuesModel_neared_36, nx_or, nI_1]
      have e : kNr f m (r + 1) = kNr f m r ||| f r := by
        show _ ||| (if m.testBit r = true then f r else 0) = _
        rw [if_pos hb]
      rw [e] at hn
      exact hn
    · rw [jif_f (by rw [Bool.not_eq_true] at hb; rw [hb]; decide), e_TextValuesModel_neared_36, show (0 : Int32) = nI 0 from rfl, nx_or, nI_1]
      have e : kNr f m (r + 1) = kNr f m r ||| 0 := by
        show _ ||| (if m.testBit r = true then f r else 0) = _
        rw [if_neg hb]
      rw [e] at hn
      exact hn
theorem r_neared {one m : Nat} {A : kA} {f : Nat → Nat} (hA : mR I one A) (h1 : I 117 3 = nI one) (hf : ∀ r, r < A.1 → I 121 r = nI (f r)) : jcall (d + 2) 172 [.ref 117, .int (nI m)] (jGs L g, I, J) = some (some (.int (nI (kNr f m A.1))), (jGs L g, I, J)) := by
  rw [c_TextValuesModel_neared, e_TextValuesModel_neared_0]
  exact r_neared_loop d L g J hA h1 hf A.1 0 (by omega)
end MM

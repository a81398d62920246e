/-! THE REFERENCE: the signs of a program -/
set_option maxRecDepth 100000
def pSk (c : Nat → Nat) (N i : Nat) : Nat := skp c (N - i) i
/-- the sign that comes, 255 at the end -/
def pCh (c : Nat → Nat) (N i : Nat) : Nat := if pSk c N i < N then c (pSk c N i) else 255
theorem pSk_le {c : Nat → Nat} {N i : Nat} (h : i ≤ N) : i ≤ pSk c N i ∧ pSk c N i ≤ N := by
  have := skp_le c (N - i) i
  unfold pSk
  omega
theorem pCh_lt {c : Nat → Nat} {N i : Nat} (h : pCh c N i < 255) : pSk c N i < N := by
  unfold pCh at h
  apply Classical.byContradiction
  intro hn
  rw [if_neg hn] at h
  omega
theorem hV_pCh {c : Nat → Nat} {N i : Nat} (hc : ∀ i, i < N → c i < 128) {x : Nat} (hx : x < 128) : (hV c N (pSk c N i) = nI x) = (pCh c N i = x) := by
  unfold hV pCh
  by_cases h : pSk c N i < N
  · rw [if_pos h, if_pos h]
    have := hc _ h
    exact propext (nI_eq (by omega) (by omega))
  · rw [if_neg h, if_neg h, show (-1 : Int32) = -nI 1 from rfl, zi_m1e' (by omega)]
    exact propext ⟨fun h => h.elim, fun h => by omega⟩
theorem hV_end {c : Nat → Nat} {N i : Nat} (h : pCh c N i = 255) (hc : ∀ i, i < N → c i < 128) : hV c N (pSk c N i) = -1 := by
  unfold pCh at h
  unfold hV
  by_cases hlt : pSk c N i < N
  · rw [if_pos hlt] at h
    have := hc _ hlt
    omega
  · rw [if_neg hlt]
theorem hV_some {c : Nat → Nat} {N i : Nat} (h : pCh c N i ≠ 255) : pSk c N i < N ∧ hV c N (pSk c N i) = nI (pCh c N i) := by
  unfold pCh at h ⊢
  unfold hV
  by_cases hlt : pSk c N i < N
  · rw [if_pos hlt, if_pos hlt]; exact ⟨hlt, rfl⟩
  · rw [if_neg hlt] at h; exact absurd rfl h
theorem pCh_128 {c : Nat → Nat} {N i : Nat} (hc : ∀ i, i < N → c i < 128) : pCh c N i < 128 ∨ pCh c N i = 255 := by
  unfold pCh
  by_cases hlt : pSk c N i < N
  · rw [if_pos hlt]; exact Or.inl (hc _ hlt)
  · rw [if_neg hlt]; exact Or.inr rfl
/-- the reading place and whether there is a fault -/
def lR (c : Nat → Nat) (N i : Nat) (b : Bool) (I : Nat → Nat → Int32) : Prop := sR c N i I ∧ I 117 54 = bI b
def eL (I I' : Nat → Nat → Int32) : Prop := ∀ a k, ¬ (a = 117 ∧ (k = 53 ∨ k = 54)) → I' a k = I a k
theorem eL_t {I I1 I2 : Nat → Nat → Int32} (h : eL I I1) (h' : eL I1 I2) : eL I I2 := fun a k hx => (h' a k hx).trans (h a k hx)
theorem eL_r (I : Nat → Nat → Int32) : eL I I := fun _ _ _ => rfl
theorem lR_ju {c : Nat → Nat} {N i i' : Nat} {b b' : Bool} {I : Nat → Nat → Int32} (h : lR c N i b I) : lR c N i' b' (ju (ju I 117 54 (bI b')) 117 53 (nI i')) := ⟨⟨by rw [zu_k (by omega), zu_k (by omega)]; exact h.1.1, fun j hj => by rw [zu_a (by omega), zu_a (by omega)]; exact h.1.2.1 j hj, zu_at _ _ _ _⟩, by rw [zu_k (by omega), zu_at]⟩
theorem eL_ju {I : Nat → Nat → Int32} {x y : Int32} : eL I (ju (ju I 117 54 x) 117 53 y) := fun a k hx => by rw [ju_ne (by omega), ju_ne (by omega)]
def vO (x : Nat) : Option Nat := if x = 117 then some 0 else if x = 118 then some 1 else if x = 120 then some 2 else if x = 121 then some 3 else none
def lO3 (x : Nat) : Option Nat := if 97 ≤ x ∧ x ≤ 99 then some (x - 97) else none
def nO (s x : Nat) : Option Nat := if s = 0 then vO x else if s = 1 then (if 48 ≤ x ∧ x ≤ 51 then some (x - 48) else none) else if s = 3 ∧ x = 45 then some 3 else lO3 x
def oO : Option Nat → Int32
  | none => -1
  | some v => nI v
theorem nO_lt {s x v : Nat} (h : nO s x = some v) : v < 4 ∧ x < 128 := by
  unfold nO vO lO3 at h
  repeat' split at h
  all_goals first | cases h | skip
  all_goals omega
section MM
variable (d L : Nat) (g : jG) {J : Nat → Nat → Int64}
theorem r_hereL {c : Nat → Nat} {N i : Nat} {b : Bool} {I : Nat → Nat → Int32} (hN : N ≤ 120) (hc : ∀ i, i < N → c i < 128) (hi : i ≤ N) (h : lR c N i b I) : ∃ I', eL I I' ∧ lR c N (pSk c N i) b I' ∧ jcall (d + 1) 197 [.ref 117] (jGs L g, I, J) = some (some (.int (hV c N (pSk c N i))), (jGs L g, I', J)) := by
  obtain ⟨I', q1, q2, q3⟩ := r_here d L g (J := J) hN hc (N - i) i I (by omega) h.1
  exact ⟨I', fun a k hx => q1 a k (by omega), ⟨q2, by rw [q1 _ _ (by omega)]; exact h.2⟩, q3⟩
theorem r_takes_f {c : Nat → Nat} {N i : Nat} {I : Nat → Nat → Int32} {x : Int32} (h : lR c N i true I) : ∃ I', eL I I' ∧ lR c N i true I' ∧ jcall (d + 1) 198 [.ref 117, .int x] (jGs L g, I, J) = some (some (.int (nI 0)), (jGs L g, I', J)) := by
  refine ⟨ju (ju I 117 54 (bI true)) 117 53 (nI i), eL_ju, lR_ju h, ?_⟩
  rw [c_TextValuesModel_takes, e_TextValuesModel_takes_0, h.2, jif_f (by decide), e_TextValuesModel_takes_19, e_TextValuesModel_takes_20, h.2, jif_f (by decide), e_TextValuesModel_takes_33, e_TextValuesModel_takes_38, jif_t (Or.inr rfl), jif_t rfl, e_TextValuesModel_takes_55, jif_t (Or.inl rfl), h.1.2.2, show (0 : Int32) = nI 0 from rfl, nI_add, Nat.add_zero]
  rfl
theorem r_takes_t {c : Nat → Nat} {N i x : Nat} {I : Nat → Nat → Int32} (hN : N ≤ 120) (hc : ∀ i, i < N → c i < 128) (hi : i ≤ N) (hx : x < 128) (h : lR c N i false I) (he : pCh c N i = x) : ∃ I', eL I I' ∧ lR c N (pSk c N i + 1) false I' ∧ jcall (d + 2) 198 [.ref 117, .int (nI x)] (jGs L g, I, J) = some (some (.int (nI 1)), (jGs L g, I', J)) := by
  obtain ⟨I1, q1, q2, q3⟩ := r_hereL d L g (J := J) hN hc hi h
  refine ⟨ju (ju I1 117 54 (bI false)) 117 53 (nI (pSk c N i + 1)), eL_t q1 eL_ju, lR_ju q2, ?_⟩
  rw [c_TextValuesModel_takes, e_TextValuesModel_takes_0, h.2, jif_t (by decide), q3, jcI_some, e_TextValuesModel_takes_11, jif_t (by rw [hV_pCh hc hx]; exact he), e_TextValuesModel_takes_20, q2.2, jif_t (by decide), jif_f (by decide), e_TextValuesModel_takes_38, jif_t (Or.inl rfl), jif_f (by decide), e_TextValuesModel_takes_55, jif_t (Or.inr rfl), q2.1.2.2, nI_1]
  rfl
theorem r_takes_n {c : Nat → Nat} {N i x : Nat} {I : Nat → Nat → Int32} (hN : N ≤ 120) (hc : ∀ i, i < N → c i < 128) (hi : i ≤ N) (hx : x < 128) (h : lR c N i false I) (he : pCh c N i ≠ x) : ∃ I', eL I I' ∧ lR c N (pSk c N i) true I' ∧ jcall (d + 2) 198 [.ref 117, .int (nI x)] (jGs L g, I, J) = some (some (.int (nI 0)), (jGs L g, I', J)) := by
  obtain ⟨I1, q1, q2, q3⟩ := r_hereL d L g (J := J) hN hc hi h
  refine ⟨ju (ju I1 117 54 (bI true)) 117 53 (nI (pSk c N i)), eL_t q1 eL_ju, lR_ju q2, ?_⟩
  rw [c_TextValuesModel_takes, e_TextValuesModel_takes_0, h.2, jif_t (by decide), q3, jcI_some, e_TextValuesModel_takes_11, jif_f (by rw [hV_pCh hc hx]; exact he), e_TextValuesModel_takes_19, e_TextValuesModel_takes_20, q2.2, jif_t (by decide), jif_t rfl, e_TextValuesModel_takes_33, e_TextValuesModel_takes_38, jif_t (Or.inr rfl), jif_t rfl, e_TextValuesModel_takes_55, jif_t (Or.inl rfl), q2.1.2.2, show (0 : Int32) = nI 0 from rfl, nI_add, Nat.add_zero]
  rfl
theorem r_variableOf {x : Nat} {I : Nat → Nat → Int32} (hx : x < 128) : jcall (d + 1) 200 [.int (nI x)] (jGs L g, I, J) = some (some (.int (oO (vO x))), (jGs L g, I, J)) := by
  have ne : ∀ b, b < 128 → x ≠ b → ¬ nI x = nI b := fun b hb hne e => hne ((nI_eq (by omega) (by omega)).mp e)
  unfold vO
  rw [c_TextValuesModel_variableOf, e_TextValuesModel_variableOf_0]
  by_cases h0 : x = 117
  · rw [jif_t (by rw [h0]; rfl), if_pos h0, e_TextValuesModel_variableOf_41]; rfl
  · rw [jif_f (show ¬ nI x = (117 : Int32) from ne 117 (by omega) h0), if_neg h0]
    by_cases h1 : x = 118
    · rw [jif_t (by rw [h1]; rfl), if_pos h1, e_TextValuesModel_variableOf_41]; rfl
    · rw [jif_f (show ¬ nI x = (118 : Int32) from ne 118 (by omega) h1), if_neg h1]
      by_cases h2 : x = 120
      · rw [jif_t (by rw [h2]; rfl), if_pos h2, e_TextValuesModel_variableOf_41]; rfl
      · rw [jif_f (show ¬ nI x = (120 : Int32) from ne 120 (by omega) h2), if_neg h2]
        by_cases h3 : x = 121
        · rw [jif_t (by rw [h3]; rfl), if_pos h3, e_TextValuesModel_variableOf_41]; rfl
        · rw [jif_f (show ¬ nI x = (121 : Int32) from ne 121 (by omega) h3), if_neg h3, e_TextValuesModel_variableOf_41]; rfl
theorem r_variableOf_m {I : Nat → Nat → Int32} : jcall (d + 1) 200 [.int (-1 : Int32)] (jGs L g, I, J) = some (some (.int (-1 : Int32)), (jGs L g, I, J)) := by
  rw [c_TextValuesModel_variableOf, e_TextValuesModel_variableOf_0, jif_f (by decide), jif_f (by decide), jif_f (by decide), jif_f (by decide), e_TextValuesModel_variableOf_41]
theorem r_in {x a b : Nat} {I : Nat → Nat → Int32} (hx : x < 2147483648) (ha : a < 2147483648) (hb : b < 2147483648) : jcall (d + 1) 159 [.int (nI x), .int (nI a), .int (nI b)] (jGs L g, I, J) = some (some (.int (bI (decide (a ≤ x ∧ x ≤ b)))), (jGs L g, I, J)) := by
  rw [c_TextValuesModel_in, e_TextValuesModel_in_0]
  by_cases h1 : x < a
  · rw [jif_t (nI_lt h1 ha), e_TextValuesModel_in_14, e_TextValuesModel_in_15, jif_t (Or.inl rfl), decide_eq_false (by omega)]; rfl
  · rw [jif_f (nI_nlt (by omega) hx)]
    by_cases h2 : b < x
    · rw [jif_t (nI_lt h2 hx), e_TextValuesModel_in_14, e_TextValuesModel_in_15, jif_t (Or.inl rfl), decide_eq_false (by omega)]; rfl
    · rw [jif_f (nI_nlt (by omega) hb), e_TextValuesModel_in_15, jif_t (Or.inr rfl), decide_eq_true (by omega)]; rfl
theorem r_in_m {a b : Nat} {I : Nat → Nat → Int32} (ha : a < 2147483648) : jcall (d + 1) 159 [.int (-1 : Int32), .int (nI a), .int (nI b)] (jGs L g, I, J) = some (some (.int (nI 0)), (jGs L g, I, J)) := by
  rw [c_TextValuesModel_in, e_TextValuesModel_in_0, jif_t (by rw [show (-1 : Int32) = -nI 1 from rfl, zi_m1lt ha]; trivial), e_TextValuesModel_in_14, e_TextValuesModel_in_15, jif_t (Or.inl rfl)]; rfl
/-- the value of a sign, before the fault is noted -/
theorem r_num_15 {s x : Nat} {I : Nat → Nat → Int32} (hs : s < 4) (hx : x < 128) : jval (d + 2) 201 15 [.ref 117, .int (nI s), jjunk, jjunk] [.int (nI x)] (jGs L g, I, J) = jval (d + 2) 201 73 [.ref 117, jjunk, jjunk, jjunk] [.int (oO (nO s x))] (jGs L g, I, J) := by
  have l69 : lO x = oO (lO3 x) := by
    unfold lO lO3
    by_cases h : 97 ≤ x ∧ x ≤ 99
    · rw [if_pos h, if_pos h]; rfl
    · rw [if_neg h, if_neg h]; rfl
  have e69 : jval (d + 2) 201 69 [.ref 117, jjunk, .int (nI x), jjunk] [] (jGs L g, I, J) = jval (d + 2) 201 73 [.ref 117, jjunk, jjunk, jjunk] [.int (oO (lO3 x))] (jGs L g, I, J) := by
    rw [e_TextValuesModel_number_69, r_letterOf d L g hx, jcI_some, l69]
  rw [e_TextValuesModel_number_15]
  unfold nO
  by_cases h0 : s = 0
  · rw [jif_t (by rw [h0]; rfl), r_variableOf (d + 1) L g hx, jcI_some, e_TextValuesModel_number_24, if_pos h0]
  · rw [jif_f (show ¬ nI s = (0 : Int32) from nI_ne0 (by omega) (by omega)), if_neg h0]
    by_cases h1 : s = 1
    · rw [jif_t (by rw [h1]; rfl), show (48 : Int32) = nI 48 from rfl, show (51 : Int32) = nI 51 from rfl, r_in (d + 1) L g (by omega) (by omega) (by omega), jcI_some, e_TextValuesModel_number_40, if_pos h1]
      by_cases hr : 48 ≤ x ∧ x ≤ 51
      · rw [decide_eq_true hr, jif_f (by decide), if_pos hr, show (48 : Int32) = nI 48 from rfl, zi_sub hr.1]; rfl
      · rw [decide_eq_false hr, jif_t (by decide), if_neg hr]; rfl
    · rw [jif_f (show ¬ nI s = (1 : Int32) from fun e => h1 ((nI_eq (b := 1) (by omega) (by omega)).mp e)), if_neg h1]
      by_cases h3 : s = 3
      · rw [jif_t (by rw [h3]; rfl)]
        by_cases h45 : x = 45
        · rw [jif_t (by rw [h45]; rfl), if_pos ⟨h3, h45⟩]; rfl
        · rw [jif_f (show ¬ nI x = (45 : Int32) from fun e => h45 ((nI_eq (b := 45) (by omega) (by omega)).mp e)), if_neg (by omega), e69]
      · rw [jif_f (show ¬ nI s = (3 : Int32) from fun e => h3 ((nI_eq (b := 3) (by omega) (by omega)).mp e)), if_neg (by omega), e69]
theorem r_num_15m {s : Nat} {I : Nat → Nat → Int32} (hs : s < 4) : jval (d + 2) 201 15 [.ref 117, .int (nI s), jjunk, jjunk] [.int (-1 : Int32)] (jGs L g, I, J) = jval (d + 2) 201 73 [.ref 117, jjunk, jjunk, jjunk] [.int (-1 : Int32)] (jGs L g, I, J) := by
  rw [e_TextValuesModel_number_15]
  by_cases h0 : s = 0
  · rw [jif_t (by rw [h0]; rfl), r_variableOf_m (d + 1) L g, jcI_some, e_TextValuesModel_number_24]
  · rw [jif_f (show ¬ nI s = (0 : Int32) from nI_ne0 (by omega) (by omega))]
    by_cases h1 : s = 1
    · rw [jif_t (by rw [h1]; rfl), show (48 : Int32) = nI 48 from rfl, show (51 : Int32) = nI 51 from rfl, r_in_m (d + 1) L g (by omega), jcI_some, e_TextValuesModel_number_40, jif_t (by decide)]
    · rw [jif_f (show ¬ nI s = (1 : Int32) from fun e => h1 ((nI_eq (b := 1) (by omega) (by omega)).mp e))]
      have e69 : jval (d + 2) 201 69 [.ref 117, jjunk, .int (-1 : Int32), jjunk] [] (jGs L g, I, J) = jval (d + 2) 201 73 [.ref 117, jjunk, jjunk, jjunk] [.int (-1 : Int32)] (jGs L g, I, J) := by
        rw [e_TextValuesModel_number_69, r_letterOf_m d L g, jcI_some]
      by_cases h3 : s = 3
      · rw [jif_t (by rw [h3]; rfl), jif_f (by decide), e69]
      · rw [jif_f (show ¬ nI s = (3 : Int32) from fun e => h3 ((nI_eq (b := 3) (by omega) (by omega)).mp e)), e69]
theorem r_num_73n {c : Nat → Nat} {N i : Nat} {b : Bool} {I : Nat → Nat → Int32} (h : lR c N i b I) : jval d 201 73 [.ref 117, jjunk, jjunk, jjunk] [.int (-1 : Int32)] (jGs L g, I, J) = some (some (.int (-1 : Int32)), (jGs L g, ju (ju I 117 54 (bI true)) 117 53 (nI i), J)) := by
  have e87 : jval d 201 87 [.ref 117, jjunk, jjunk, .int (-1 : Int32)] [.ref 117] (jGs L g, I, J) = some (some (.int (-1 : Int32)), (jGs L g, ju (ju I 117 54 (bI true)) 117 53 (nI i), J)) := by
    rw [e_TextValuesModel_number_87, e_TextValuesModel_number_92, jif_t (Or.inr rfl), jif_f (by decide), e_TextValuesModel_number_112, h.1.2.2, show (0 : Int32) = nI 0 from rfl, nI_add, Nat.add_zero]
    rfl
  rw [e_TextValuesModel_number_73, h.2]
  cases b
  · rw [jif_t (by decide), jif_t rfl]; exact e87
  · rw [jif_f (by decide)]; exact e87
theorem r_number_f {c : Nat → Nat} {N i s : Nat} {I : Nat → Nat → Int32} (hs : s < 4) (h : lR c N i true I) : ∃ I', eL I I' ∧ lR c N i true I' ∧ jcall (d + 3) 201 [.ref 117, .int (nI s)] (jGs L g, I, J) = some (some (.int (-1 : Int32)), (jGs L g, I', J)) := by
  refine ⟨ju (ju I 117 54 (bI true)) 117 53 (nI i), eL_ju, lR_ju h, ?_⟩
  rw [c_TextValuesModel_number, e_TextValuesModel_number_0, h.2, jif_f (by decide), r_num_15m d L g hs, r_num_73n (d + 2) L g h]
theorem r_number_t {c : Nat → Nat} {N i s v : Nat} {I : Nat → Nat → Int32} (hN : N ≤ 120) (hc : ∀ i, i < N → c i < 128) (hi : i ≤ N) (hs : s < 4) (h : lR c N i false I) (he : nO s (pCh c N i) = some v) : ∃ I', eL I I' ∧ lR c N (pSk c N i + 1) false I' ∧ jcall (d + 3) 201 [.ref 117, .int (nI s)] (jGs L g, I, J) = some (some (.int (nI v)), (jGs L g, I', J)) := by
  obtain ⟨I1, q1, q2, q3⟩ := r_hereL (d + 1) L g (J := J) hN hc hi h
  obtain ⟨v4, x128⟩ := nO_lt he
  obtain ⟨-, hv⟩ := hV_some (c := c) (N := N) (i := i) (by omega)
  refine ⟨ju (ju I1 117 54 (bI false)) 117 53 (nI (pSk c N i + 1)), eL_t q1 eL_ju, lR_ju q2, ?_⟩
  have hne : ¬ nI v = (-1 : Int32) := by rw [show (-1 : Int32) = -nI 1 from rfl, zi_m1e (by omega)]; exact id
  rw [c_TextValuesModel_number, e_TextValuesModel_number_0, h.2, jif_t (by decide), q3, jcI_some, hv, r_num_15 d L g hs x128, he, e_TextValuesModel_number_73, q2.2, jif_t (by decide)]
  show jif (nI v = (-1 : Int32)) _ (jval (d + 2) 201 92 [.ref 117, jjunk, jjunk, .int (nI v)] [.int (0 : Int32), .ref 117] (jGs L g, I1, J)) = _
  rw [jif_f hne, e_TextValuesModel_number_92, jif_t (Or.inl rfl), jif_t rfl, e_TextValuesModel_number_112, q2.1.2.2, nI_1]
  rfl
theorem r_number_n {c : Nat → Nat} {N i s : Nat} {I : Nat → Nat → Int32} (hN : N ≤ 120) (hc : ∀ i, i < N → c i < 128) (hi : i ≤ N) (hs : s < 4) (h : lR c N i false I) (he : nO s (pCh c N i) = none) : ∃ I', eL I I' ∧ lR c N (pSk c N i) true I' ∧ jcall (d + 3) 201 [.ref 117, .int (nI s)] (jGs L g, I, J) = some (some (.int (-1 : Int32)), (jGs L g, I', J)) := by
  obtain ⟨I1, q1, q2, q3⟩ := r_hereL (d + 1) L g (J := J) hN hc hi h
  refine ⟨ju (ju I1 117 54 (bI true)) 117 53 (nI (pSk c N i)), eL_t q1 eL_ju, lR_ju q2, ?_⟩
  rw [c_TextValuesModel_number, e_TextValuesModel_number_0, h.2, jif_t (by decide), q3, jcI_some]
  rcases pCh_128 (c := c) (N := N) (i := i) hc with hx | hx
  · obtain ⟨-, hv⟩ := hV_some (c := c) (N := N) (i := i) (by omega)
    rw [hv, r_num_15 d L g hs hx, he, show oO none = (-1 : Int32) from rfl, r_num_73n (d + 2) L g q2]
  · rw [hV_end hx hc, r_num_15m d L g hs, r_num_73n (d + 2) L g q2]
end MM

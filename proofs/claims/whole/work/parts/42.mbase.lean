/-! THE REFERENCE: its sets of texts, plain methods (template: wip/whole/tpl) -/
set_option maxRecDepth 100000
theorem b_1 (i : Nat) : bt 1 i = decide (i = 0) := by
  rcases Nat.lt_or_ge i 32 with h | h
  · exact (by decide +kernel : ∀ i, i < 32 → bt 1 i = decide (i = 0)) i h
  · rw [b_big h, decide_eq_false (by omega)]
theorem b_test {r : Nat} (hr : r < 32) (x : Int32) : (x >>> (nI r &&& 31)) &&& 1 = bI (bt x r) := by
  apply b_ext
  intro i hi
  rw [b_and, b_sshr r hr x hi, b_1]
  by_cases h0 : i = 0
  · subst h0
    rw [Nat.add_zero, if_pos hr, decide_eq_true rfl, Bool.and_true]
    cases bt x r <;> decide
  · rw [decide_eq_false h0, Bool.and_false]
    cases bt x r
    · exact (b_0 i).symm
    · show false = bt 1 i
      rw [b_1, decide_eq_false h0]
section MB
variable (d L : Nat) (g : jG) (I : Nat → Nat → Int32) (J : Nat → Nat → Int64)
theorem s_in (x a b : Int32) : jcall (d + 1) 159 [.int x, .int a, .int b] (jGs L g, I, J) = some (some (.int (bI (jb (a ≤ x ∧ x ≤ b)))), (jGs L g, I, J)) := by
  rw [c_TextValuesModel_in, e_TextValuesModel_in_0]
  by_cases h1 : x < a
  · rw [jif_t h1, e_TextValuesModel_in_14, e_TextValuesModel_in_15, jb01_0]
    have : jb (a ≤ x ∧ x ≤ b) = false := by
      cases hj : jb (a ≤ x ∧ x ≤ b) with
      | false => rfl
      | true => exact absurd (jb_t.mp hj).1 (Int32.not_le.mpr h1)
    rw [this]; rfl
  · rw [jif_f h1]
    by_cases h2 : b < x
    · rw [jif_t h2, e_TextValuesModel_in_14, e_TextValuesModel_in_15, jb01_0]
      have : jb (a ≤ x ∧ x ≤ b) = false := by
        cases hj : jb (a ≤ x ∧ x ≤ b) with
        | false => rfl
        | true => exact absurd (jb_t.mp hj).2 (Int32.not_le.mpr h2)
      rw [this]; rfl
    · rw [jif_f h2, e_TextValuesModel_in_15, jb01_1]
      have : jb (a ≤ x ∧ x ≤ b) = true := jb_t.mpr ⟨Int32.not_lt.mp h1, Int32.not_lt.mp h2⟩
      rw [this]; rfl
theorem s_size {k : Nat} (hk : k < 56) : jcall (d + 1) 160 [.ref 117, .int (nI k)] (jGs L g, I, J) = some (some (.int (I 119 (32 * k))), (jGs L g, I, J)) := by
  rw [c_TextValuesModel_size, e_TextValuesModel_size_0, show (32 : Int32) * nI k = nI (32 * k) from nI_mul 32 k, jin_nI (by omega) (by omega), nI_c (by omega)]
  rfl
theorem s_ends {k : Nat} (hk : k < 56) : jcall (d + 1) 161 [.ref 117, .int (nI k)] (jGs L g, I, J) = some (some (.int (I 119 (32 * k + 1))), (jGs L g, I, J)) := by
  rw [c_TextValuesModel_ends, e_TextValuesModel_ends_0, show (32 : Int32) * nI k = nI (32 * k) from nI_mul 32 k, nI_1, jin_nI (by omega) (by omega), nI_c (by omega)]
  rfl
theorem s_isEnd {k r : Nat} (hk : k < 56) (hr : r < 32) : jcall (d + 2) 162 [.ref 117, .int (nI k), .int (nI r)] (jGs L g, I, J) = some (some (.int (bI (bt (I 119 (32 * k + 1)) r))), (jGs L g, I, J)) := by
  rw [c_TextValuesModel_isEnd, e_TextValuesModel_isEnd_0, s_ends d L g I J hk, jcI_some, e_TextValuesModel_isEnd_5, b_test hr]
  cases hb : bt (I 119 (32 * k + 1)) r
  · rw [jif_f (by decide), e_TextValuesModel_isEnd_18, jb01_0]; rfl
  · rw [jif_t (by decide), e_TextValuesModel_isEnd_18, jb01_1]; rfl
theorem s_to {k r l : Nat} (hk : k < 56) (hr : r < 10) (hl : l < 3) : jcall (d + 1) 163 [.ref 117, .int (nI k), .int (nI r), .int (nI l)] (jGs L g, I, J) = some (some (.int (I 119 (32 * k + 2 + 3 * r + l))), (jGs L g, I, J)) := by
  rw [c_TextValuesModel_to, e_TextValuesModel_to_0, show (32 : Int32) * nI k = nI (32 * k) from nI_mul 32 k, show nI (32 * k) + (2 : Int32) = nI (32 * k + 2) from nI_add _ 2, show (3 : Int32) * nI r = nI (3 * r) from nI_mul 3 r, nI_add, nI_add, jin_nI (by omega) (by omega), nI_c (by omega)]
  rfl
/-- a slot copied, the first c places -/
def mCp (I : Nat → Nat → Int32) (a b c : Nat) : Nat → Nat → Int32 := jup I 119 (fun j => if 32 * b ≤ j ∧ j < 32 * b + c then I 119 (32 * a + (j - 32 * b)) else I 119 j)
theorem mCp_0 (a b : Nat) : mCp I a b 0 = I := by
  funext x
  unfold mCp jup
  split
  · rename_i h
    subst h
    funext j
    rw [if_neg (by omega)]
  · rfl
theorem mCp_s {a b c : Nat} (hc : c < 32) : ju (mCp I a b c) 119 (32 * b + c) (mCp I a b c 119 (32 * a + c)) = mCp I a b (c + 1) := by
  have e : mCp I a b c 119 (32 * a + c) = I 119 (32 * a + c) := by
    unfold mCp
    rw [jup_s]
    by_cases hab : a = b
    · subst hab
      rw [if_neg (by omega)]
    · rw [if_neg (by omega)]
  rw [e]
  funext x
  by_cases hx : x = 119
  · subst hx
    rw [ju_s]
    unfold mCp
    rw [jup_s, jup_s]
    funext j
    unfold jup
    dsimp only
    by_cases hj : j = 32 * b + c
    · rw [if_pos hj, if_pos (by omega), hj]
      congr 1
      omega
    · rw [if_neg hj]
      by_cases h2 : 32 * b ≤ j ∧ j < 32 * b + c
      · rw [if_pos h2, if_pos (by omega)]
      · rw [if_neg h2, if_neg (by omega)]
  · rw [ju_n hx]
    unfold mCp
    rw [jup_n hx, jup_n hx]
theorem s_copies_loop {a b : Nat} (ha : a < 56) (hb : b < 56) : ∀ n c, c + n = 32 → jval d 164 2 [.ref 117, .int (nI a), .int (nI b), .int (nI c)] [] (jGs L g, mCp I a b c, J) = some (none, (jGs L g, mCp I a b 32, J)) := by
  intro n
  induction n with
  | zero =>
    intro c hc
    have : c = 32 := by omega
    subst this
    rw [e_TextValuesModel_copies_2, jif_t (show (32 : Int32) ≤ nI 32 by decide)]
  | succ n ih =>
    intro c hc
    rw [e_TextValuesModel_copies_2, jif_f (show ¬ (32 : Int32) ≤ nI c from nI_ge (a := c) (b := 32) (by omega) (by omega)), show (32 : Int32) * nI a = nI (32 * a) from nI_mul 32 a, show (32 : Int32) * nI b = nI (32 * b) from nI_mul 32 b, nI_add, nI_add, nI_1, jin_nI (by omega) (by omega), jin_nI (by omega) (by omega), nI_c (by omega), nI_c (by omega), mCp_s I (by omega)]
    exact ih (c + 1) (by omega)
theorem s_copies {a b : Nat} (ha : a < 56) (hb : b < 56) : jcall (d + 1) 164 [.ref 117, .int (nI a), .int (nI b)] (jGs L g, I, J) = some (none, (jGs L g, mCp I a b 32, J)) := by
  have h := s_copies_loop d L g I J ha hb 32 0 (by omega)
  rw [mCp_0] at h
  rw [c_TextValuesModel_copies, e_TextValuesModel_copies_0]
  exact h
end MB

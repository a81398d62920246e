/-! numbers: small naturals as ints -/
theorem nI_mul (a b : Nat) : nI a * nI b = nI (a * b) := by
  unfold nI
  exact (Int32.ofNat_mul a b).symm
theorem jin_nI {n N : Nat} (h : n < N) (hN : N ≤ 2147483648) : jin (nI n) N = true := jin_t.mpr ⟨nI_pos' (by omega), by rw [nI_clamp (by omega)]; exact h⟩
theorem nI_c {n : Nat} (h : n < 2147483648) : (nI n).toNatClampNeg = n := nI_clamp h
theorem jcI_some {α : Type} (x : Int32) (S : jS) (k : Int32 → jS → Option α) : jcI (some (some (.int x), S)) k = k x S := rfl
theorem jcV_some {α : Type} (S : jS) (k : jS → Option α) : jcV (some (none, S)) k = k S := rfl
theorem jcJ_some {α : Type} (x : Int64) (S : jS) (k : Int64 → jS → Option α) : jcJ (some (some (.long x), S)) k = k x S := rfl
theorem jcR_some {α : Type} (a : Nat) (S : jS) (kn : jS → Option α) (k : Nat → jS → Option α) : jcR (some (some (.ref a), S)) kn k = k a S := rfl
theorem jcR_null {α : Type} (S : jS) (kn : jS → Option α) (k : Nat → jS → Option α) : jcR (some (some .null, S)) kn k = kn S := rfl
theorem jcond_t {α : Type} {c : Bool} {a b : α} (h : c = true) : cond c a b = a := by rw [h]; rfl
theorem jb01_0 {α : Type} (a b : α) : jif ((0 : Int32) = 0 ∨ (0 : Int32) = 1) a b = a := jif_t (Or.inl rfl)
theorem jb01_1 {α : Type} (a b : α) : jif ((1 : Int32) = 0 ∨ (1 : Int32) = 1) a b = a := jif_t (Or.inr rfl)
/-- a truth as an int -/
def bI (b : Bool) : Int32 := cond b 1 0
theorem bI_01 {α : Type} (c : Bool) (a b : α) : jif (bI c = 0 ∨ bI c = 1) a b = a := by
  cases c
  · exact jb01_0 a b
  · exact jb01_1 a b
theorem bI_eq1 (c : Bool) : bI c = 1 ↔ c = true := by cases c <;> decide
theorem bI_eq0 (c : Bool) : bI c = 0 ↔ c = false := by cases c <;> decide

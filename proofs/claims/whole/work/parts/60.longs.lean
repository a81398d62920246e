/-! THE CLASS: longs as naturals, bytes, unsigned shifts; the heap's shape under new cells and references (the wb rows: pasted from kit/laws/BITS) -/
set_option maxRecDepth 100000
/-! ===== lN n to 2^64: shifts, and, or, masks, one bit ===== -/
theorem wb_tb (n : Nat) : (lN n).toBitVec = BitVec.ofNat 64 n := rfl
theorem wb_inj {a b : Int64} (h : a.toBitVec = b.toBitVec) : a = b := Int64.toBitVec_inj.mp h
theorem wb_tn {n : Nat} (h : n < 2 ^ 64) : (lN n).toBitVec.toNat = n := by rw [wb_tb, BitVec.toNat_ofNat, Nat.mod_eq_of_lt h]
theorem wb_of (x : Int64) : ∃ n, n < 2 ^ 64 ∧ x = lN n := ⟨x.toBitVec.toNat, x.toBitVec.isLt, wb_inj (by rw [wb_tb]; simp)⟩
theorem wb_of32 (x : Int32) : ∃ n, n < 2 ^ 32 ∧ x = nI n := ⟨x.toBitVec.toNat, x.toBitVec.isLt, Int32.toBitVec_inj.mp (by show _ = BitVec.ofNat 32 _; simp)⟩
theorem wb_c : ∀ k, k < 64 → ((nI k).toInt64 &&& 63) = lN k := by decide +kernel
theorem wb_cu : ∀ k, k < 64 → ((nI k).toInt64.toUInt64 &&& Int64.toUInt64 63) = UInt64.ofNat k := by decide +kernel
theorem wb_sm : ∀ k, k < 64 → (BitVec.ofNat 64 k).smod 64 = BitVec.ofNat 64 k := by decide +kernel
theorem wb_pw {a b : Nat} (h : a ≤ b) : 2 ^ b = 2 ^ a * 2 ^ (b - a) := by rw [← Nat.pow_add]; congr 1; omega
theorem wb_lt2 {a b : Nat} (h : a < b) : 2 ^ a < 2 ^ b := Nat.pow_lt_pow_right (by decide) h
theorem wb_mod (n : Nat) : lN n = lN (n % 2 ^ 64) := wb_inj (by rw [wb_tb, wb_tb]; apply BitVec.eq_of_toNat_eq; rw [BitVec.toNat_ofNat, BitVec.toNat_ofNat, Nat.mod_mod])
theorem wb_shr {n k : Nat} (hn : n < 2 ^ 64) (hk : k < 64) : ((lN n).toUInt64 >>> ((nI k).toInt64.toUInt64 &&& Int64.toUInt64 63)).toInt64 = lN (n / 2 ^ k) := by
  rw [wb_cu k hk]
  apply wb_inj
  apply BitVec.eq_of_toNat_eq
  show ((lN n).toUInt64 >>> UInt64.ofNat k).toNat = (BitVec.ofNat 64 _).toNat
  have h1 : (UInt64.ofNat k).toNat = k := by
    show (BitVec.ofNat 64 k).toNat = k
    rw [BitVec.toNat_ofNat, Nat.mod_eq_of_lt (by omega)]
  have h2 : (lN n).toUInt64.toNat = n := wb_tn hn
  rw [UInt64.toNat_shiftRight, h1, h2, Nat.mod_eq_of_lt hk, Nat.shiftRight_eq_div_pow, BitVec.toNat_ofNat, Nat.mod_eq_of_lt (Nat.lt_of_le_of_lt (Nat.div_le_self _ _) hn)]
theorem wb_shl (n : Nat) {k : Nat} (hk : k < 64) : lN n <<< ((nI k).toInt64 &&& 63) = lN (n * 2 ^ k) := by
  rw [wb_c k hk]
  apply wb_inj
  rw [Int64.toBitVec_shiftLeft, wb_tb, wb_tb, wb_tb, wb_sm k hk]
  apply BitVec.eq_of_toNat_eq
  rw [BitVec.shiftLeft_eq', BitVec.toNat_shiftLeft, BitVec.toNat_ofNat, BitVec.toNat_ofNat, BitVec.toNat_ofNat, Nat.mod_eq_of_lt (show k < 2 ^ 64 by omega), Nat.shiftLeft_eq, Nat.mul_mod, Nat.mod_mod, ← Nat.mul_mod]
theorem wb_and {a b : Nat} (ha : a < 2 ^ 64) (hb : b < 2 ^ 64) : lN a &&& lN b = lN (a &&& b) := by
  apply wb_inj
  rw [Int64.toBitVec_and, wb_tb, wb_tb, wb_tb]
  apply BitVec.eq_of_toNat_eq
  rw [BitVec.toNat_and, BitVec.toNat_ofNat, BitVec.toNat_ofNat, BitVec.toNat_ofNat, Nat.mod_eq_of_lt ha, Nat.mod_eq_of_lt hb, Nat.mod_eq_of_lt (Nat.and_lt_two_pow _ hb)]
theorem wb_or {a b : Nat} (ha : a < 2 ^ 64) (hb : b < 2 ^ 64) : lN a ||| lN b = lN (a ||| b) := by
  apply wb_inj
  rw [Int64.toBitVec_or, wb_tb, wb_tb, wb_tb]
  apply BitVec.eq_of_toNat_eq
  rw [BitVec.toNat_or, BitVec.toNat_ofNat, BitVec.toNat_ofNat, BitVec.toNat_ofNat, Nat.mod_eq_of_lt ha, Nat.mod_eq_of_lt hb, Nat.mod_eq_of_lt (Nat.or_lt_two_pow ha hb)]
theorem wb_mask {n k : Nat} (hn : n < 2 ^ 64) (hk : k < 64) : lN n &&& lN (2 ^ k - 1) = lN (n % 2 ^ k) := by
  rw [wb_and hn (by have := wb_lt2 hk; omega), Nat.and_two_pow_sub_one_eq_mod]
theorem wb_a1 {n : Nat} (hn : n < 2 ^ 64) : lN n &&& 1 = lN (n % 2) := wb_mask (k := 1) hn (by decide)
theorem wb_bit {n k : Nat} (hn : n < 2 ^ 64) (hk : k < 64) : ((lN n).toUInt64 >>> ((nI k).toInt64.toUInt64 &&& Int64.toUInt64 63)).toInt64 &&& 1 = lN (n / 2 ^ k % 2) := by
  rw [wb_shr hn hk, wb_a1 (Nat.lt_of_le_of_lt (Nat.div_le_self _ _) hn)]
theorem zl_and (a b : Nat) : lN a &&& lN b = lN (a &&& b) := by
  apply wb_inj
  rw [Int64.toBitVec_and, wb_tb, wb_tb, wb_tb]
  apply BitVec.eq_of_getLsbD_eq
  intro i hi
  simp [hi]
theorem zl_or (a b : Nat) : lN a ||| lN b = lN (a ||| b) := by
  apply wb_inj
  rw [Int64.toBitVec_or, wb_tb, wb_tb, wb_tb]
  apply BitVec.eq_of_getLsbD_eq
  intro i hi
  simp [hi]
/-- a without b's bits -/
def nD (a b : Nat) : Nat := a ^^^ (a &&& b)
theorem nD_bit (a b i : Nat) : (nD a b).testBit i = (a.testBit i && !b.testBit i) := by
  unfold nD
  rw [Nat.testBit_xor, Nat.testBit_and]
  cases a.testBit i <;> cases b.testBit i <;> rfl
theorem zl_dif (a b : Nat) : lN a &&& (lN b ^^^ (-1 : Int64)) = lN (nD a b) := by
  apply wb_inj
  rw [Int64.toBitVec_and, Int64.toBitVec_xor, wb_tb, wb_tb, wb_tb]
  apply BitVec.eq_of_getLsbD_eq
  intro i hi
  have h1 : ((-1 : Int64).toBitVec).getLsbD i = true := by
    have : (-1 : Int64).toBitVec = BitVec.allOnes 64 := by decide
    rw [this, BitVec.getLsbD_allOnes, decide_eq_true hi]
  rw [BitVec.getLsbD_and, BitVec.getLsbD_xor, h1, BitVec.getLsbD_ofNat, BitVec.getLsbD_ofNat, BitVec.getLsbD_ofNat, nD_bit]
  simp [hi]
theorem zl_shl {n k : Nat} (hk : k < 64) : lN n <<< (lN k &&& 63) = lN (n * 2 ^ k) := by
  rw [← nI_l (show k < 2 ^ 31 by omega)]
  exact wb_shl n hk
theorem zl_srl {n k : Nat} (hn : n < 9223372036854775808) (hk : k < 64) : jsrl (lN n) (nI k) = lN (n / 2 ^ k) := wb_shr (Nat.lt_trans hn (by decide)) hk
theorem zl_i (n : Nat) : (lN n).toInt32 = nI n := lN_i n
theorem zl_w {n : Nat} (h : n < 2147483648) : (nI n).toInt64 = lN n := nI_l h
theorem zl_cmp {a b : Nat} (ha : a < 9223372036854775808) (hb : b < 9223372036854775808) : (lg_cmp (lN a) (lN b) = nI 0) = (a = b) := by
  apply propext
  unfold lg_cmp
  have e := pk_lEQ (a := a) (b := b) ha hb
  constructor
  · intro h
    by_cases h1 : lN a > lN b
    · rw [if_pos h1] at h; exact absurd h (by decide)
    · rw [if_neg h1] at h
      by_cases h2 : lN a = lN b
      · exact e.mp h2
      · rw [if_neg h2] at h; exact absurd h (by decide)
  · intro h
    subst h
    have hl := pk_lLT (a := a) (b := a) ha ha
    rw [if_neg (show ¬ lN a > lN a from fun hh => absurd (hl.mp hh) (by omega)), if_pos rfl]
    rfl
theorem zi_b8 : ∀ n, n < 128 → (nI n).toInt8.toInt32 = nI n := by decide +kernel
theorem zi_b {n : Nat} (h : n < 128) : (nI n).toInt8.toInt32 = nI n := zi_b8 n h
theorem zi_and (a b : Nat) : nI a &&& nI b = nI (a &&& b) := nx_and a b
theorem zi_or (a b : Nat) : nI a ||| nI b = nI (a ||| b) := nx_or a b
theorem zs_amt : ∀ k, k < 32 → (((nI k).toUInt32 &&& Int32.toUInt32 31).toBitVec % 32).toNat = k := by decide +kernel
theorem zi_sru {n k : Nat} (hn : n < 2147483648) (hk : k < 32) : jsru (nI n) (nI k) = nI (n / 2 ^ k) := pk_ushrN (Nat.lt_trans hn (by decide)) (nI k) k (zs_amt k hk)
theorem zs_amt2 : ∀ k, k < 32 → ((nI k &&& 31).toBitVec.smod 32).toNat = k := by decide +kernel
theorem zi_shl {n k : Nat} (hk : k < 32) (h : n * 2 ^ k < 4294967296) : nI n <<< (nI k &&& nI 31) = nI (n * 2 ^ k) := pk_shlN (nI k &&& 31) k (zs_amt2 k hk) h
theorem zn_bit (m j : Nat) : (m / 2 ^ j &&& 1 = 0) = (m.testBit j = false) := by
  rw [Nat.and_one_is_mod, Nat.testBit_eq_decide_div_mod_eq, decide_eq_false_iff_not]
  apply propext
  omega
theorem zn_b1 (m j : Nat) : m / 2 ^ j &&& 1 = (if m.testBit j = true then 1 else 0) := by
  rw [Nat.and_one_is_mod, Nat.testBit_eq_decide_div_mod_eq]
  split
  · rename_i h; exact of_decide_eq_true h
  · rename_i h; have := of_decide_eq_false (Bool.not_eq_true _ ▸ h); omega
theorem zn_m15 (m : Nat) : m &&& 15 = m % 16 := Nat.and_two_pow_sub_one_eq_mod m 4
theorem zn_m20 (m : Nat) : m &&& 1048575 = m % 1048576 := Nat.and_two_pow_sub_one_eq_mod m 20
theorem zn_m10 (m : Nat) : m &&& 1023 = m % 1024 := Nat.and_two_pow_sub_one_eq_mod m 10
theorem zu_row {α : Type} {f : Nat → Nat → α} {a k b : Nat} {x : α} (h : b ≠ a) : ju f a k x b = f b := ju_n h
theorem jo_some {α : Type} (a : Nat) (kn : α) (k : Nat → α) : jo (some a) kn k = k a := rfl
theorem jo_none {α : Type} (kn : α) (k : Nat → α) : jo none kn k = kn := rfl
theorem ll_0 : (0 : Int64) = lN 0 := rfl
theorem ll_1 : (1 : Int64) = lN 1 := rfl
theorem ll_1048575 : (1048575 : Int64) = lN 1048575 := rfl
theorem ll_1118481 : (1118481 : Int64) = lN 1118481 := rfl
theorem li_16384 : (16384 : Int32) = nI 16384 := rfl
theorem li_1073741824 : (1073741824 : Int32) = nI 1073741824 := rfl
/-! the shape -/
theorem jr0_dyn {a : Nat} (h : 171 ≤ a) (k : Nat) : jr0 a k = 0 := by
  have h1 : ∀ (l : List (List Nat)) (n : Nat), l.length ≤ n → jnth l n [] = [] := by
    intro l
    induction l with
    | nil => intro n _; cases n <;> rfl
    | cons x l ih =>
      intro n hn
      cases n with
      | zero => exact absurd hn (by simp)
      | succ n => exact ih n (by simpa using hn)
  unfold jr0
  rw [h1 jr0s a (Nat.le_trans (by decide) h)]
  cases k <;> rfl
theorem jGs_R {L : Nat} {g : jG} {a k : Nat} {v : Option Nat} (h : jr0 a k = 0) : jgsR (jGs L g) a k v = jGs L (jgsR g a k v) := by
  unfold jgsR jGs
  dsimp only
  congr 1
  congr 1
  congr 1
  funext b j
  by_cases hb : b = a
  · subst hb
    by_cases hj : j = k
    · subst hj
      rw [ju_at, h]
      exact (ju_at _ _ _ _).symm
    · rw [zu_k hj, zu_k hj]
  · rw [zu_a hb, zu_a hb]
/-- a new cell -/
def jga (g : jG) (kd ln n : Nat) : jG := (jup g.1 (g.2.2.2.1 + 1) kd, jup g.2.1 (g.2.2.2.1 + 1) ln, jup g.2.2.1 (g.2.2.2.1 + 1) (fun _ => none), g.2.2.2.1 + 1, g.2.2.2.2 + n)
theorem jal_G {L : Nat} {g : jG} {I : Nat → Nat → Int32} {J : Nat → Nat → Int64} {kd ln n : Nat} (h : 170 ≤ g.2.2.2.1) : jal (jGs L g, I, J) kd ln n = (jGs L (jga g kd ln n), jup I (g.2.2.2.1 + 1) (fun _ => 0), jup J (g.2.2.2.1 + 1) (fun _ => 0)) := by
  refine Prod.ext (Prod.ext ?_ (Prod.ext ?_ (Prod.ext ?_ rfl))) rfl
  · funext b
    show jup (fun a => if a < 171 then jnth jk0s a 0 else g.1 a) (g.2.2.2.1 + 1) kd b = (if b < 171 then jnth jk0s b 0 else jup g.1 (g.2.2.2.1 + 1) kd b)
    unfold jup
    by_cases hb : b = g.2.2.2.1 + 1
    · subst hb
      rw [if_pos rfl, if_neg (by omega), if_pos rfl]
    · rw [if_neg hb, if_neg hb]
  · funext b
    show jup (fun a => if a = 0 then L else if a < 171 then jnth jl0s a 0 else g.2.1 a) (g.2.2.2.1 + 1) ln b = (if b = 0 then L else if b < 171 then jnth jl0s b 0 else jup g.2.1 (g.2.2.2.1 + 1) ln b)
    unfold jup
    by_cases hb : b = g.2.2.2.1 + 1
    · subst hb
      rw [if_pos rfl, if_neg (by omega), if_neg (by omega), if_pos rfl]
    · rw [if_neg hb, if_neg hb]
  · funext b j
    show jup (fun a k => match jr0 a k with
      | 0 => g.2.2.1 a k
      | v + 1 => some (v + 1)) (g.2.2.2.1 + 1) (fun _ => none) b j = (match jr0 b j with
      | 0 => jup g.2.2.1 (g.2.2.2.1 + 1) (fun _ => none) b j
      | v + 1 => some (v + 1))
    unfold jup
    by_cases hb : b = g.2.2.2.1 + 1
    · subst hb
      rw [if_pos rfl, jr0_dyn (by omega), if_pos rfl]
    · rw [if_neg hb, if_neg hb]
theorem jrm_t {L : Nat} {g : jG} {I : Nat → Nat → Int32} {J : Nat → Nat → Int64} {n : Nat} (h1 : g.2.2.2.1 + 1 ≤ 600000) (h2 : g.2.2.2.2 + n ≤ 7302250) : jrm (jGs L g, I, J) n = true := jb_t.mpr ⟨h1, h2⟩
theorem jb_nI {n : Nat} (h : n < 2147483648) : jb ((0 : Int32) ≤ nI n) = true := jb_t.mpr (nI_pos' h)
/-- the kind and the length of a cell, a reference -/
abbrev gK (L : Nat) (g : jG) (a : Nat) : Nat := (jGs L g).1 a
abbrev gN (L : Nat) (g : jG) (a : Nat) : Nat := (jGs L g).2.1 a
abbrev gR (L : Nat) (g : jG) (a k : Nat) : Option Nat := (jGs L g).2.2.1 a k
theorem gR_dyn {L : Nat} {g : jG} {a k : Nat} (h : jr0 a k = 0) : gR L g a k = g.2.2.1 a k := by
  show (match jr0 a k with
    | 0 => g.2.2.1 a k
    | v + 1 => some (v + 1)) = _
  rw [h]

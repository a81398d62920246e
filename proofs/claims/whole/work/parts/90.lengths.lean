/-! THE CLASS: lengths of texts -/
set_option maxRecDepth 100000
def ldT (A : kA) (m : Nat) : Nat := kEm (fun q => (m.testBit (A.2.2 q 0) || m.testBit (A.2.2 q 1)) || m.testBit (A.2.2 q 2)) A.1
def msk (A : kA) (n : Nat) : Nat := kEm (fun q => decide (0 < cnt A n q)) A.1
theorem msk_bit {A : kA} {n q : Nat} (hq : q < A.1) : (msk A n).testBit q = decide (0 < cnt A n q) := by
  unfold msk
  rw [kEm_bit, decide_eq_true hq, Bool.true_and]
theorem msk_0 (A : kA) : msk A 0 = kEm A.2.1 A.1 := by
  unfold msk
  apply kEm_cg
  intro q hq
  have hc : cnt A 0 q = (if A.2.1 q = true then 1 else 0) := rfl
  rw [Bool.eq_iff_iff, decide_eq_true_iff, hc]
  by_cases he : A.2.1 q = true
  · rw [if_pos he]; exact ⟨fun _ => he, fun _ => by omega⟩
  · rw [if_neg he]; exact ⟨fun h => absurd h (by omega), fun h => absurd h he⟩
theorem msk_s {A : kA} (hA : kWf A) (n : Nat) : ldT A (msk A n) = msk A (n + 1) := by
  unfold ldT
  rw [show msk A (n + 1) = kEm (fun q => decide (0 < cnt A (n + 1) q)) A.1 from rfl]
  apply kEm_cg
  intro q hq
  rw [msk_bit (hA.2 q hq 0 (by omega)), msk_bit (hA.2 q hq 1 (by omega)), msk_bit (hA.2 q hq 2 (by omega)), show cnt A (n + 1) q = cnt A n (A.2.2 q 0) + cnt A n (A.2.2 q 1) + cnt A n (A.2.2 q 2) from rfl]
  generalize cnt A n (A.2.2 q 0) = x
  generalize cnt A n (A.2.2 q 1) = y
  generalize cnt A n (A.2.2 q 2) = z
  rw [Bool.eq_iff_iff, Bool.or_eq_true, Bool.or_eq_true, decide_eq_true_iff, decide_eq_true_iff, decide_eq_true_iff, decide_eq_true_iff]
  omega
theorem msk_lt {A : kA} (hA : kV A) (n : Nat) : msk A n < 1024 := Nat.lt_of_lt_of_le (kEm_lt _ _) (Nat.pow_le_pow_right (n := 2) (by omega) hA.2.1)
section CC
variable (d L : Nat) (g : jG) {I : Nat → Nat → Int32} {J : Nat → Nat → Int64}
theorem c_leadingTo {a m : Nat} {A : kA} (hA : cR L g I J a A) (hm : m < 1024) : jcall (d + 2) 116 [.ref a, .int (nI m)] (jGs L g, I, J) = some (some (.int (nI (ldT A m))), (jGs L g, I, J)) := by
  have hV := hA.2.1
  have wA := hV.1.1
  have hA10 := hV.2.1
  have k1 : (jGs L g).1 a = 2 := hA.1
  have step : ∀ q l x, q < A.1 → l < 3 → jval (d + 1) 116 15 [.ref a, .int (nI m), .int (nI x), .int (nI q), .int (nI l)] [] (jGs L g, I, J) = jval (d + 1) 116 15 [.ref a, .int (nI m), .int (nI (x ||| (if m.testBit (A.2.2 q l) = true then 2 ^ q else 0))), .int (nI q), .int (nI (l + 1))] [] (jGs L g, I, J) := by
    intro q l x hq hl
    have ht := wA.2 q hq l hl
    have hs : (if m.testBit (A.2.2 q l) = true then 1 else 0) * 2 ^ q < 4294967296 := by
      have : 2 ^ q ≤ 2 ^ 10 := Nat.pow_le_pow_right (by omega) (by omega)
      split <;> omega
    have hsh : nI (if m.testBit (A.2.2 q l) = true then 1 else 0) <<< (nI q &&& 31) = nI ((if m.testBit (A.2.2 q l) = true then 1 else 0) * 2 ^ q) := zi_shl (by omega) hs
    have hb : (if m.testBit (A.2.2 q l) = true then 1 else 0) * 2 ^ q = (if m.testBit (A.2.2 q l) = true then 2 ^ q else 0) := by
      split
      · rw [Nat.one_mul]
      · rw [Nat.zero_mul]
    rw [e_Texts_leadingTo_15, jif_f (show ¬ (3 : Int32) ≤ nI l from nI_ge (a := l) (b := 3) hl (by omega)), if_pos k1, c_to d L g hA (by omega) hl, jcI_some, e_Texts_leadingTo_30, zi_sru (by omega) (by omega), show (1 : Int32) = nI 1 from rfl, zi_and, zn_b1, hsh, zi_or, hb, nI_add]
  have loop : ∀ k q, q + k = A.1 → jval (d + 1) 116 4 [.ref a, .int (nI m), .int (nI (kEm (fun q => (m.testBit (A.2.2 q 0) || m.testBit (A.2.2 q 1)) || m.testBit (A.2.2 q 2)) q)), .int (nI q), jjunk] [] (jGs L g, I, J) = some (some (.int (nI (ldT A m))), (jGs L g, I, J)) := by
    intro k
    induction k with
    | zero =>
      intro q hq
      have : q = A.1 := by omega
      subst this
      rw [e_Texts_leadingTo_4, if_pos k1, hA.2.2.2.2.2, jif_t (nI_le (Nat.le_refl _) (by omega))]
      rfl
    | succ k ih =>
      intro q hq
      have hi := ih (q + 1) (by omega)
      rw [show kEm (fun q => (m.testBit (A.2.2 q 0) || m.testBit (A.2.2 q 1)) || m.testBit (A.2.2 q 2)) (q + 1) = kEm (fun q => (m.testBit (A.2.2 q 0) || m.testBit (A.2.2 q 1)) || m.testBit (A.2.2 q 2)) q ||| (if ((m.testBit (A.2.2 q 0) || m.testBit (A.2.2 q 1)) || m.testBit (A.2.2 q 2)) = true then 2 ^ q else 0) from rfl] at hi
      rw [e_Texts_leadingTo_4, if_pos k1, hA.2.2.2.2.2, jif_f (nI_ge (by omega) (by omega)), show (0 : Int32) = nI 0 from rfl, step q 0 _ (by omega) (by omega), step q (0 + 1) _ (by omega) (by omega), step q (0 + 1 + 1) _ (by omega) (by omega), e_Texts_leadingTo_15, jif_t (show (3 : Int32) ≤ nI (0 + 1 + 1 + 1) by decide), nI_1, ← hi]
      congr 3
      show Value.int (nI _) :: _ = Value.int (nI _) :: _
      congr 3
      cases m.testBit (A.2.2 q 0) <;> cases m.testBit (A.2.2 q (0 + 1)) <;> cases m.testBit (A.2.2 q (0 + 1 + 1)) <;> simp [Nat.or_assoc]
  rw [c_Texts_leadingTo, e_Texts_leadingTo_0]
  exact loop A.1 0 (by omega)
theorem and1_bit (m : Nat) : (nI m &&& (1 : Int32) = 0) = (m.testBit 0 = false) := by
  rw [show (1 : Int32) = nI 1 from rfl, zi_and]
  have h := zn_bit m 0
  rw [Nat.pow_zero, Nat.div_one] at h
  rw [← h, show (0 : Int32) = nI 0 from rfl]
  have hlt : m &&& 1 < 2 := by rw [Nat.and_one_is_mod]; omega
  exact zi_eq (by omega) (by omega)
theorem c_shortest {a : Nat} {A : kA} (hA : cR L g I J a A) : jcall (d + 3) 114 [.ref 13, .ref a] (jGs L g, I, J) = some (some (.int (oI (lLo A 10 0))), (jGs L g, I, J)) := by
  have hV := hA.2.1
  have wA := hV.1.1
  have k1 : (jGs L g).1 a = 2 := hA.1
  have loop : ∀ f n, n + f = 10 → jval (d + 2) 114 7 [jjunk, .ref a, .int (nI (msk A n)), .int (nI n)] [] (jGs L g, I, J) = some (some (.int (oI (lLo A f n))), (jGs L g, I, J)) := by
    intro f
    induction f with
    | zero =>
      intro n hn
      have : n = 10 := by omega
      subst this
      rw [e_Texts_shortest_7, jif_t (by decide)]
      rfl
    | succ f ih =>
      intro n hn
      rw [e_Texts_shortest_7, jif_f (show ¬ (10 : Int32) ≤ nI n from nI_ge (a := n) (b := 10) (by omega) (by omega)), and1_bit, msk_bit wA.1, show lLo A (f + 1) n = (if cnt A n 0 = 0 then lLo A f (n + 1) else some n) from rfl]
      by_cases hz : cnt A n 0 = 0
      · rw [if_pos hz, jif_t (by rw [hz]; rfl), c_leadingTo d L g hA (msk_lt hV n), jcI_some, e_Texts_shortest_26, msk_s wA, nI_1]
        exact ih (n + 1) (by omega)
      · rw [if_neg hz, jif_f (by rw [decide_eq_true (by omega)]; decide)]
        rfl
  rw [c_Texts_shortest, e_Texts_shortest_0, if_pos k1, hA.2.2.2.2.1, ← msk_0]
  exact loop 10 0 (by omega)
theorem c_long_end {o : Option Nat} (ho : ∀ m, o = some m → m < 20) : jif (oI o < (10 : Int32)) (jval d 115 51 [jjunk, jjunk, jjunk, jjunk, jjunk] [.int (oI o)] (jGs L g, I, J)) (jval d 115 51 [jjunk, jjunk, jjunk, jjunk, jjunk] [.int (1000 : Int32)] (jGs L g, I, J)) = some (some (.int (gLv o)), (jGs L g, I, J)) := by
  cases o with
  | none =>
    rw [jif_t (show oI none < (10 : Int32) by decide), e_Texts_longest_51]
    rfl
  | some m =>
    have hm := ho m rfl
    rw [show oI (some m) = nI m from rfl, show gLv (some m) = (if m < 10 then nI m else nI 1000) from rfl]
    by_cases h : m < 10
    · rw [jif_t (show nI m < (10 : Int32) from nI_lt (a := m) (b := 10) h (by omega)), e_Texts_longest_51, if_pos h]
    · rw [jif_f (show ¬ nI m < (10 : Int32) from nI_nlt (a := m) (b := 10) (by omega) (by omega)), e_Texts_longest_51, if_neg h]
      rfl
theorem c_long_loop {a : Nat} {A : kA} {M : Nat} (hA : cR L g I J a A) (hM : M = 20) : ∀ f n, n + f = M → jval (d + 2) 115 10 [jjunk, .ref a, .int (nI (msk A n)), .int (oI (gLo A n)), .int (nI n)] [] (jGs L g, I, J) = some (some (.int (gLv (gLo A M))), (jGs L g, I, J)) := by
  have hV := hA.2.1
  have wA := hV.1.1
  intro f
  induction f with
  | zero =>
    intro n hn
    have : n = M := by omega
    subst this
    have hl := gLo_lt A n
    generalize gLo A n = o at *
    rw [e_Texts_longest_10, jif_t (show (20 : Int32) ≤ nI n from nI_le (a := 20) (b := n) (by omega) (by omega))]
    exact c_long_end (d + 2) L g (fun m hm => by have := hl m hm; omega)
  | succ f ih =>
    intro n hn
    have hi := ih (n + 1) (by omega)
    rw [show gLo A (n + 1) = (if cnt A n 0 = 0 then gLo A n else some n) from rfl] at hi
    rw [e_Texts_longest_10, jif_f (show ¬ (20 : Int32) ≤ nI n from nI_ge (a := n) (b := 20) (by omega) (by omega)), and1_bit, msk_bit wA.1]
    by_cases hz : cnt A n 0 = 0
    · rw [if_pos hz] at hi
      rw [jif_t (by rw [hz]; rfl), e_Texts_longest_26, c_leadingTo d L g hA (msk_lt hV n), jcI_some, e_Texts_longest_31, msk_s wA, nI_1]
      exact hi
    · rw [if_neg hz] at hi
      rw [jif_f (by rw [decide_eq_true (by omega)]; decide), e_Texts_longest_26, c_leadingTo d L g hA (msk_lt hV n), jcI_some, e_Texts_longest_31, msk_s wA, nI_1]
      exact hi
theorem c_longest {a : Nat} {A : kA} (hA : cR L g I J a A) : jcall (d + 3) 115 [.ref 13, .ref a] (jGs L g, I, J) = some (some (.int (gLv (gLo A 20))), (jGs L g, I, J)) := by
  have k1 : (jGs L g).1 a = 2 := hA.1
  have hl := c_long_loop d L g hA (M := 20) rfl 20 0 rfl
  rw [c_Texts_longest, e_Texts_longest_0, if_pos k1, hA.2.2.2.2.1, ← msk_0, show (-1 : Int32) = oI (gLo A 0) from rfl, show (0 : Int32) = nI 0 from rfl]
  exact hl
end CC

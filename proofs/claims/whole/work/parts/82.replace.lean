/-! THE CLASS: replace -/
set_option maxRecDepth 100000
theorem kIt_add (A : kA) (p n m i : Nat) : kIt A p (n + m) i = kIt A p n (kIt A p m i) := by
  induction n with
  | zero => rw [Nat.zero_add]; rfl
  | succ n ih =>
    rw [show n + 1 + m = n + m + 1 by omega]
    show A.2.2 (kIt A p (n + m) i) p = A.2.2 (kIt A p n (kIt A p m i)) p
    rw [ih]
theorem kIt_small {A : kA} (hA : kWf A) {p r : Nat} (hp : p < 3) (hr : r < A.1) : ∀ k, ∃ k', k' < A.1 ∧ kIt A p k' r = kIt A p k r := by
  obtain ⟨i, j, h1, h2, h3⟩ := kPigeon A.1 (fun k => kIt A p k r) (fun k _ => kIt_lt hA hp hr k)
  intro k
  induction k using Nat.strongRecOn with
  | _ k ih =>
    by_cases hk : k < A.1
    · exact ⟨k, hk, rfl⟩
    · obtain ⟨k', e1, e2⟩ := ih (k - j + i) (by omega)
      refine ⟨k', e1, e2.trans ?_⟩
      rw [kIt_add]
      have h3' : kIt A p i r = kIt A p j r := h3
      rw [h3', ← kIt_add]
      congr 1
      omega
/-- the states of the first k repetitions -/
def clo (A : kA) (p r : Nat) : Nat → Nat
  | 0 => 0
  | k + 1 => clo A p r k ||| 2 ^ kIt A p k r
theorem clo_bit (A : kA) (p r j : Nat) : ∀ k, (clo A p r k).testBit j = true ↔ ∃ i, i < k ∧ kIt A p i r = j
  | 0 => by
    show (0 : Nat).testBit j = true ↔ _
    simp
  | k + 1 => by
    show (clo A p r k ||| 2 ^ kIt A p k r).testBit j = true ↔ _
    rw [Nat.testBit_or, Bool.or_eq_true, clo_bit A p r j k, Nat.testBit_two_pow, decide_eq_true_iff]
    constructor
    · rintro (⟨i, h1, h2⟩ | h)
      · exact ⟨i, by omega, h2⟩
      · exact ⟨k, by omega, h⟩
    · rintro ⟨i, h1, h2⟩
      by_cases hi : i = k
      · subst hi; exact Or.inr h2
      · exact Or.inl ⟨i, by omega, h2⟩
theorem clo_cl {A : kA} (hA : kV A) {p r : Nat} (hp : p < 3) (hr : r < A.1) : clo A p r 10 = kCl A p (2 ^ r) := by
  have w := hA.1.1
  apply Nat.eq_of_testBit_eq
  intro j
  rw [Bool.eq_iff_iff, clo_bit, kCl_bit w hp (Nat.pow_lt_pow_right (by omega) hr)]
  constructor
  · rintro ⟨i, h1, h2⟩
    exact ⟨r, i, by rw [Nat.testBit_two_pow_self], h2⟩
  · rintro ⟨i, k, h1, h2⟩
    rw [Nat.testBit_two_pow, decide_eq_true_iff] at h1
    subst h1
    obtain ⟨k', e1, e2⟩ := kIt_small w hp hr k
    have := hA.2.1
    exact ⟨k', by omega, e2.trans h2⟩
section CC
variable (d L : Nat) (g : jG)
theorem c_closure {I : Nat → Nat → Int32} {J : Nat → Nat → Int64} {a r p : Nat} {A : kA} (hA : cR L g I J a A) (hp : p < 3) (hr : r < A.1) : jcall (d + 2) 36 [.ref a, .int (nI r), .int (nI p)] (jGs L g, I, J) = some (some (.int (nI (kCl A p (2 ^ r)))), (jGs L g, I, J)) := by
  have hV := hA.2.1
  have w := hV.1.1
  have hA10 := hV.2.1
  have k1 : (jGs L g).1 a = 2 := hA.1
  have loop : ∀ n k, k + n = 10 → jval (d + 1) 36 8 [.ref a, jjunk, .int (nI p), .int (nI (clo A p r k)), .int (nI (kIt A p k r)), .int (nI k)] [] (jGs L g, I, J) = some (some (.int (nI (clo A p r 10))), (jGs L g, I, J)) := by
    intro n
    induction n with
    | zero =>
      intro k hk
      have : k = 10 := by omega
      subst this
      rw [e_Maker_closure_8, jif_t (by decide)]
    | succ n ih =>
      intro k hk
      have hlt := kIt_lt w hp hr k
      rw [e_Maker_closure_8, jif_f (show ¬ (10 : Int32) ≤ nI k from nI_ge (a := k) (b := 10) (by omega) (by omega)), if_pos k1, c_to d L g hA (by omega) hp, jcI_some, e_Maker_closure_29, nI_1, show (1 : Int32) <<< (nI (kIt A p k r) &&& 31) = nI (2 ^ kIt A p k r) from nI_pow _ (by omega), zi_or]
      exact ih (k + 1) (by omega)
  rw [c_Maker_closure, e_Maker_closure_0, ← clo_cl hV hp hr]
  exact loop 10 0 (by omega)
end CC
/-- what a letter x of a state gives to the letter l -/
noncomputable def ctb (A : kA) (p q r x l : Nat) : Nat := if (if x = p then q else x) = l then clE A p q (2 ^ A.2.2 r x) else 0
noncomputable def fEo (A : kA) (p q r l : Nat) : Nat → Nat
  | 0 => 0
  | o + 1 => fEo A p q r l o ||| ctb A p q r o l
noncomputable def fE (A : kA) (p q r l : Nat) : Nat := fEo A p q r l 3
theorem clE_20 {A : kA} (hA : kV A) (p q r x : Nat) : clE A p q (2 ^ A.2.2 r x) < 1048576 := by
  unfold clE
  have h1 := kV_to hA r x
  have h2 := hA.2.1
  split
  · exact Nat.lt_of_lt_of_le (kCl_lt A p _) (Nat.le_trans (Nat.pow_le_pow_right (n := 2) (by omega) h2) (by decide))
  · exact Nat.lt_of_lt_of_le (Nat.pow_lt_pow_right (by omega) h1) (show 2 ^ 10 ≤ 1048576 by decide)
theorem ctb_lt {A : kA} (hA : kV A) (p q r x l : Nat) : ctb A p q r x l < 1048576 := by
  unfold ctb
  by_cases h : (if x = p then q else x) = l
  · rw [if_pos h]; exact clE_20 hA p q r x
  · rw [if_neg h]; omega
theorem fEo_lt {A : kA} (hA : kV A) (p q r l : Nat) : ∀ o, fEo A p q r l o < 1048576
  | 0 => by show 0 < 1048576; omega
  | o + 1 => Nat.or_lt_two_pow (n := 20) (fEo_lt hA p q r l o) (ctb_lt hA p q r o l)
theorem fEo_bit (A : kA) (p q r l j : Nat) : ∀ o, (fEo A p q r l o).testBit j = true ↔ ∃ x, x < o ∧ (if x = p then q else x) = l ∧ (clE A p q (2 ^ A.2.2 r x)).testBit j = true
  | 0 => by
    show (0 : Nat).testBit j = true ↔ _
    simp
  | o + 1 => by
    show (fEo A p q r l o ||| ctb A p q r o l).testBit j = true ↔ _
    rw [Nat.testBit_or, Bool.or_eq_true, fEo_bit A p q r l j o]
    unfold ctb
    constructor
    · rintro (⟨x, h1, h2, h3⟩ | h)
      · exact ⟨x, by omega, h2, h3⟩
      · by_cases he : (if o = p then q else o) = l
        · rw [if_pos he] at h
          exact ⟨o, by omega, he, h⟩
        · rw [if_neg he, Nat.zero_testBit] at h
          cases h
    · rintro ⟨x, h1, h2, h3⟩
      by_cases hx : x = o
      · subst hx
        exact Or.inr (by rw [if_pos h2]; exact h3)
      · exact Or.inl ⟨x, by omega, h2, h3⟩
theorem uE_bit (A : kA) (p q m l i : Nat) : (uE A p q m l).testBit i = true ↔ ∃ x, x < 3 ∧ (if x = p then q else x) = l ∧ ∃ r, r < A.1 ∧ m.testBit r = true ∧ A.2.2 r x = i := by
  have ht : ∀ x, (tE A p q m l x).testBit i = true ↔ (if x = p then q else x) = l ∧ ∃ r, r < A.1 ∧ m.testBit r = true ∧ A.2.2 r x = i := fun x => by
    unfold tE
    by_cases h : (if x = p then q else x) = l
    · rw [if_pos h, kMv_bit]
      exact ⟨fun hh => ⟨h, hh⟩, fun hh => hh.2⟩
    · rw [if_neg h, Nat.zero_testBit]
      exact ⟨fun hh => absurd hh (by decide), fun hh => absurd hh.1 h⟩
  unfold uE
  rw [Nat.testBit_or, Nat.testBit_or, Nat.testBit_or, Nat.zero_testBit, Bool.false_or, Bool.or_eq_true, Bool.or_eq_true, ht, ht, ht]
  constructor
  · rintro ((h | h) | h)
    · exact ⟨0, by omega, h⟩
    · exact ⟨1, by omega, h⟩
    · exact ⟨2, by omega, h⟩
  · rintro ⟨x, h1, h2⟩
    have : x = 0 ∨ x = 1 ∨ x = 2 := by omega
    rcases this with e | e | e <;> subst e
    · exact Or.inl (Or.inl h2)
    · exact Or.inl (Or.inr h2)
    · exact Or.inr h2
theorem clE_bit {A : kA} (hA : kWf A) {p q u j : Nat} (hp : p < 3) (hu : u < 2 ^ A.1) : (clE A p q u).testBit j = true ↔ ∃ i, u.testBit i = true ∧ (if q = 3 then ∃ k, kIt A p k i = j else i = j) := by
  unfold clE
  by_cases hq : q = 3
  · rw [if_pos hq, kCl_bit hA hp hu]
    simp only [hq, if_true]
    exact ⟨fun ⟨i, k, h1, h2⟩ => ⟨i, h1, k, h2⟩, fun ⟨i, h1, k, h2⟩ => ⟨i, k, h1, h2⟩⟩
  · rw [if_neg hq]
    simp only [hq, if_false]
    exact ⟨fun h => ⟨j, h, rfl⟩, fun ⟨i, h1, h2⟩ => by rw [← h2]; exact h1⟩
theorem nxM_E {A : kA} (hA : kV A) {p q m l : Nat} (hp : p < 3) (hm : m < 2 ^ A.1) (hl : l < 3) : nxM A.1 (fE A p q) m l = nxE A p q m l := by
  have w := hA.1.1
  apply Nat.eq_of_testBit_eq
  intro j
  unfold nxM nxE
  rw [Bool.eq_iff_iff, kNr_bit, clE_bit w hp (uE_lt w)]
  constructor
  · rintro ⟨r, r1, r2, r3⟩
    obtain ⟨x, x1, x2, x3⟩ := (fEo_bit A p q r l j 3).mp r3
    obtain ⟨i, i1, i2⟩ := (clE_bit w hp (Nat.pow_lt_pow_right (by omega) (w.2 r r1 x x1))).mp x3
    rw [Nat.testBit_two_pow, decide_eq_true_iff] at i1
    exact ⟨i, (uE_bit A p q m l i).mpr ⟨x, x1, x2, r, r1, r2, i1⟩, i2⟩
  · rintro ⟨i, i1, i2⟩
    obtain ⟨x, x1, x2, r, r1, r2, r3⟩ := (uE_bit A p q m l i).mp i1
    refine ⟨r, r1, r2, (fEo_bit A p q r l j 3).mpr ⟨x, x1, x2, (clE_bit w hp (Nat.pow_lt_pow_right (by omega) (w.2 r r1 x x1))).mpr ⟨i, ?_, i2⟩⟩⟩
    rw [Nat.testBit_two_pow, decide_eq_true_iff]; exact r3
theorem enM_E {A : kA} {F : Nat → Nat → Nat} {m : Nat} (hm : m < 2 ^ A.1) : enM A.1 A.1 0 F (kEm A.2.1 A.1) m = enE A m := by
  unfold enM aK enE
  rw [mHow_0, Bool.eq_iff_iff, Bool.or_eq_true, jb_t, jb_t, decide_eq_true_iff, and_pos_iff]
  constructor
  · rintro (⟨q, q1, q2, q3, q4⟩ | ⟨q, q1, q2, q3, q4⟩)
    · exact ⟨q, q3, q4⟩
    · exact ⟨q, q3, q4⟩
  · rintro ⟨q, q1, q2⟩
    have := kbit_lt hm q1
    exact Or.inl ⟨q, this, this, q1, q2⟩
theorem sim_E {A : kA} (hA : kV A) {p q : Nat} (hp : p < 3) : mSim A.1 A.1 0 (kEm A.2.1 A.1) (fE A p q) (nxE A p q) (enE A) (clE A p q 1) (fun m => m < 2 ^ A.1) (fun m => m) := by
  have w := hA.1.1
  have h10 : 2 ^ A.1 ≤ 2 ^ 10 := Nat.pow_le_pow_right (by omega) hA.2.1
  have h1 : 2 ^ 1 ≤ 2 ^ A.1 := Nat.pow_le_pow_right (by omega) w.1
  exact ⟨clE_lt (by omega), fun x l hx hl => ⟨clE_lt (uE_lt w), nxM_E hA hp hx hl⟩, fun x hx => by have hx' : x < 2 ^ A.1 := hx; exact ⟨by omega, by show x < 1048576; omega⟩, fun x hx => enM_E hx, Or.inl rfl⟩
/-- a letter for itself: nothing changes -/
theorem vEx_same {A : kA} (hA : kV A) {p : Nat} (hp : p < 3) : vEx A p p = A := by
  have w := hA.1.1
  unfold vEx
  have hq : ¬ p = 3 := by omega
  have h0 : clE A p p 1 = 2 ^ 0 := by unfold clE; rw [if_neg hq]
  rw [h0, kMk_some hA, Option.getD_some]
  intro u hu
  have hk : ∀ (w' : List Nat) (x : Nat), kG (fun x l => A.2.2 x l) (fun x => A.2.1 x) x w' = kL A x w' := by
    intro w'
    induction w' with
    | nil => intro x; rfl
    | cons l w' ih => intro x; exact ih _
  rw [m_sim (P := fun x => x < A.1) (φ := fun x => 2 ^ x) (nxr := fun x l => A.2.2 x l) (enr := fun x => A.2.1 x) (fun x l hx hl => ⟨w.2 x hx l hl, ?_⟩) (fun x hx => ?_) u 0 w.1 hu, hk]
  · apply Nat.eq_of_testBit_eq
    intro j
    unfold nxE
    rw [Bool.eq_iff_iff, clE_bit w hp (uE_lt w), Nat.testBit_two_pow, decide_eq_true_iff]
    simp only [hq, if_false]
    constructor
    · rintro ⟨i, i1, i2⟩
      obtain ⟨y, y1, y2, r, r1, r2, r3⟩ := (uE_bit A p p (2 ^ x) l i).mp i1
      rw [Nat.testBit_two_pow, decide_eq_true_iff] at r2
      have hyl : y = l := by
        by_cases hyp : y = p
        · rw [if_pos hyp] at y2; omega
        · rw [if_neg hyp] at y2; exact y2
      rw [r2, ← hyl, r3, i2]
    · intro h
      refine ⟨j, (uE_bit A p p (2 ^ x) l j).mpr ⟨l, hl, ?_, x, hx, by rw [Nat.testBit_two_pow_self], h⟩, rfl⟩
      by_cases hlp : l = p
      · rw [if_pos hlp, hlp]
      · rw [if_neg hlp]
  · show enE A (2 ^ x) = A.2.1 x
    unfold enE
    rw [Bool.eq_iff_iff, decide_eq_true_iff, and_pos_iff]
    constructor
    · rintro ⟨r, r1, r2⟩
      rw [Nat.testBit_two_pow, decide_eq_true_iff] at r1
      rw [kV_end hA] at r2
      rw [r1]; exact r2
    · intro h
      exact ⟨x, by rw [Nat.testBit_two_pow_self], by rw [kV_end hA]; exact h⟩
/-- the letter that comes, as the class has it -/
def wI (q : Nat) : Int32 := if q = 3 then -1 else nI q
noncomputable def fEt (A : kA) (p q r0 o : Nat) (r l : Nat) : Nat := if r < r0 then fE A p q r l else if r = r0 then fEo A p q r l o else 0
theorem fEt_lt {A : kA} (hA : kV A) (p q r0 o r l : Nat) : fEt A p q r0 o r l < 1048576 := by
  unfold fEt
  split
  · exact fEo_lt hA p q r l 3
  · split
    · exact fEo_lt hA p q r l o
    · omega
section CC
variable (d L : Nat) (g : jG)
theorem c_rep_35 {I : Nat → Nat → Int32} {r a out p q : Nat} {A : kA} (hV : kV A) (hp : p < 3) (hq : q < 4) (hpq : p ≠ q) (hr : r < A.1) : ∀ k o (J : Nat → Nat → Int64), o + k = 3 → cR L g I J a A → mkU I J A.1 A.1 0 (fEt A p q r o) → ∃ J', (∀ y, y ≠ 20 → J' y = J y) ∧ mkU I J' A.1 A.1 0 (fEt A p q (r + 1) 0) ∧ jval (d + 2) 35 35 [.ref 19, .ref a, .int (nI p), .int (wI q), .ref out, .int (nI r), .int (nI o), jjunk] [] (jGs L g, I, J) = jval (d + 2) 35 23 [.ref 19, .ref a, .int (nI p), .int (wI q), .ref out, .int (nI (r + 1)), jjunk, jjunk] [] (jGs L g, I, J') := by
  have w := hV.1.1
  have hA10 := hV.2.1
  intro k
  induction k with
  | zero =>
    intro o J ho hA hU
    have : o = 3 := by omega
    subst this
    refine ⟨J, fun _ _ => rfl, mkU_cg hU (fun r' _ l' _ => ?_) (fEt_lt hV _ _ _ _), ?_⟩
    · unfold fEt fE
      by_cases h1 : r' < r
      · rw [if_pos (by omega), if_pos h1]
      · by_cases h2 : r' = r
        · rw [if_pos (by omega), if_neg h1, if_pos h2]
        · rw [if_neg (by omega), if_neg h1, if_neg h2]
          by_cases h3 : r' = r + 1
          · rw [if_pos h3]; rfl
          · rw [if_neg h3]
    · rw [e_Maker_replace_35, jif_t (by decide), nI_1]
  | succ k ih =>
    intro o J ho hA hU
    have ho3 : o < 3 := by omega
    have k1 : (jGs L g).1 a = 2 := hA.1
    have hA20 := (kR20 hA.1).2.1
    have hto := w.2 r hr o ho3
    have start : jval (d + 2) 35 35 [.ref 19, .ref a, .int (nI p), .int (wI q), .ref out, .int (nI r), .int (nI o), jjunk] [] (jGs L g, I, J) = jval (d + 2) 35 49 [.ref 19, .ref a, .int (nI p), .int (wI q), .ref out, .int (nI r), .int (nI o), jjunk] [.int (nI (A.2.2 r o))] (jGs L g, I, J) := by
      rw [e_Maker_replace_35, jif_f (show ¬ (3 : Int32) ≤ nI o from nI_ge (a := o) (b := 3) ho3 (by omega)), if_pos k1, c_to (d + 1) L g hA (by omega) ho3, jcI_some]
    have hpow : (1 : Int32) <<< (nI (A.2.2 r o) &&& 31) = nI (2 ^ A.2.2 r o) := nI_pow _ (by omega)
    -- the target letter and the mask
    have step : ∀ (l t : Nat), l < 3 → (if o = p then q else o) = l → t = clE A p q (2 ^ A.2.2 r o) → ∃ J1 J', jcall (d + 2) 29 [.ref 19, .int (nI r), .int (nI l), .int (nI t)] (jGs L g, I, J) = some (none, (jGs L g, I, J1)) ∧ (∀ y, y ≠ 20 → J' y = J y) ∧ mkU I J' A.1 A.1 0 (fEt A p q (r + 1) 0) ∧ jval (d + 2) 35 103 [.ref 19, .ref a, .int (nI p), .int (wI q), .ref out, .int (nI r), .int (nI o), jjunk] [] (jGs L g, I, J1) = jval (d + 2) 35 23 [.ref 19, .ref a, .int (nI p), .int (wI q), .ref out, .int (nI (r + 1)), jjunk, jjunk] [] (jGs L g, I, J') := by
      intro l t hl hl2 ht
      obtain ⟨s1, s2⟩ := c_addStepU (d + 1) L g (t := t) hU hr hl (by rw [ht]; exact clE_20 hV p q r o)
      obtain ⟨J', q1, q2, q3⟩ := ih (o + 1) _ (by omega) (cR_cg L g hA rfl rfl (ju_n hA20)) (mkU_cg s1 (fun r' _ l' _ => by
        by_cases hrr : r' = r
        · subst hrr
          rw [jup_s]
          unfold fEt
          rw [if_neg (by omega), if_pos rfl]
          by_cases hll : l' = l
          · subst hll
            rw [jup_s, if_neg (by omega), if_pos rfl]
            show fEo A p q r' l' o ||| ctb A p q r' o l' = _
            unfold ctb
            rw [if_pos hl2, ht]
          · rw [jup_n hll, if_neg (by omega), if_pos rfl]
            show fEo A p q r' l' o ||| ctb A p q r' o l' = _
            unfold ctb
            rw [if_neg (fun h => hll (h.symm.trans hl2)), Nat.or_zero]
        · rw [jup_n hrr]
          unfold fEt
          by_cases h1 : r' < r
          · rw [if_pos h1, if_pos h1]
          · rw [if_neg h1, if_neg hrr, if_neg h1, if_neg hrr]) (fEt_lt hV _ _ _ _))
      refine ⟨_, J', s2, fun y hy => (q1 y hy).trans (ju_n hy), q2, ?_⟩
      rw [e_Maker_replace_103, nI_1]
      exact q3
    rw [start, e_Maker_replace_49]
    by_cases hop : o = p
    · rw [jif_t (by rw [hop])]
      by_cases hq3 : q = 3
      · -- nothing comes
        obtain ⟨J', q1, q2, q3⟩ := ih (o + 1) J (by omega) hA (mkU_cg hU (fun r' _ l' hl' => by
          unfold fEt
          by_cases h1 : r' < r
          · rw [if_pos h1, if_pos h1]
          · by_cases h2 : r' = r
            · rw [if_neg h1, if_neg h1, if_pos h2, if_pos h2]
              show fEo A p q r' l' o ||| ctb A p q r' o l' = _
              unfold ctb
              rw [if_pos hop, if_neg (by omega), Nat.or_zero]
            · rw [if_neg h1, if_neg h1, if_neg h2, if_neg h2]) (fEt_lt hV _ _ _ _))
        refine ⟨J', q1, q2, ?_⟩
        have hw : wI q = -1 := by unfold wI; rw [if_pos hq3]
        rw [jif_t hw, e_Maker_replace_103, nI_1]
        exact q3
      · have hw : wI q = nI q := by unfold wI; rw [if_neg hq3]
        have hne : ¬ wI q = (-1 : Int32) := by
          rw [hw, show (-1 : Int32) = -nI 1 from rfl, zi_m1e (by omega)]
          exact id
        obtain ⟨J1, J', q0, q1, q2, q3⟩ := step q (2 ^ A.2.2 r o) (by omega) (by rw [if_pos hop]) (by unfold clE; rw [if_neg hq3])
        refine ⟨J', q1, q2, ?_⟩
        rw [jif_f hne, hpow]
        rw [hw] at q3 ⊢
        rw [q0, jcV_some]
        exact q3
    · have hop' : ¬ nI o = nI p := fun h => hop ((nI_eq (by omega) (by omega)).mp h)
      rw [jif_f hop']
      by_cases hq3 : q = 3
      · have hw : wI q = -1 := by unfold wI; rw [if_pos hq3]
        obtain ⟨J1, J', q0, q1, q2, q3⟩ := step o (kCl A p (2 ^ A.2.2 r o)) ho3 (by rw [if_neg hop]) (by unfold clE; rw [if_pos hq3])
        refine ⟨J', q1, q2, ?_⟩
        rw [jif_t hw, c_closure d L g hA hp hto, jcI_some, e_Maker_replace_74, e_Maker_replace_81]
        rw [q0, jcV_some, e_Maker_replace_84]
        exact q3
      · have hw : wI q = nI q := by unfold wI; rw [if_neg hq3]
        have hne : ¬ wI q = (-1 : Int32) := by
          rw [hw, show (-1 : Int32) = -nI 1 from rfl, zi_m1e (by omega)]
          exact id
        obtain ⟨J1, J', q0, q1, q2, q3⟩ := step o (2 ^ A.2.2 r o) ho3 (by rw [if_neg hop]) (by unfold clE; rw [if_neg hq3])
        refine ⟨J', q1, q2, ?_⟩
        rw [jif_f hne, hpow, e_Maker_replace_81]
        rw [q0, jcV_some, e_Maker_replace_84]
        exact q3
theorem c_rep_23 {I : Nat → Nat → Int32} {a out p q : Nat} {A : kA} (hV : kV A) (hp : p < 3) (hq : q < 4) (hpq : p ≠ q) : ∀ k r (J : Nat → Nat → Int64), r + k = A.1 → cR L g I J a A → mkU I J A.1 A.1 0 (fEt A p q r 0) → ∃ J', (∀ y, y ≠ 20 → J' y = J y) ∧ mkU I J' A.1 A.1 0 (fE A p q) ∧ jval (d + 2) 35 23 [.ref 19, .ref a, .int (nI p), .int (wI q), .ref out, .int (nI r), jjunk, jjunk] [] (jGs L g, I, J) = jval (d + 2) 35 23 [.ref 19, .ref a, .int (nI p), .int (wI q), .ref out, .int (nI A.1), jjunk, jjunk] [] (jGs L g, I, J') := by
  have hA10 := hV.2.1
  intro k
  induction k with
  | zero =>
    intro r J hr hA hU
    have : r = A.1 := by omega
    subst this
    refine ⟨J, fun _ _ => rfl, mkU_cg hU (fun r' hr' l' _ => ?_) (fun r l => fEo_lt hV p q r l 3), rfl⟩
    unfold fEt
    rw [if_pos hr']
  | succ k ih =>
    intro r J hr hA hU
    have k1 : (jGs L g).1 a = 2 := hA.1
    have hA20 := (kR20 hA.1).2.1
    obtain ⟨J1, a1, a2, a3⟩ := c_rep_35 d L g (out := out) hV hp hq hpq (show r < A.1 by omega) 3 0 J (by omega) hA hU
    obtain ⟨J', q1, q2, q3⟩ := ih (r + 1) J1 (by omega) (cR_cg L g hA rfl rfl (a1 a hA20)) a2
    refine ⟨J', fun y hy => (q1 y hy).trans (a1 y hy), q2, ?_⟩
    rw [← q3, ← a3, e_Maker_replace_23, if_pos k1, hA.2.2.2.2.2, jif_f (nI_ge (by omega) (by omega))]
    rfl
theorem c_replace {I : Nat → Nat → Int32} {J : Nat → Nat → Int64} {PC PQ a out p q : Nat} {A : kA} (hI : mkI L g I PC PQ) (hA : cR L g I J a A) (hp : p < 3) (hq : q < 4) (ho : gK L g out = 2) (hoC : out ≤ g.2.2.2.1) : ∃ g' I' J', mkI L g' I' PC PQ ∧ fX L g g' I I' J J' out ∧ cR L g' I' J' out (vEx A p q) ∧ jcall (d + 4) 35 [.ref 19, .ref a, .int (nI p), .int (wI q), .ref out] (jGs L g, I, J) = some (none, (jGs L g', I', J')) := by
  have hV := hA.2.1
  have w := hV.1.1
  have hA10 := hV.2.1
  have k1 : (jGs L g).1 a = 2 := hA.1
  have k3 : (jGs L g).1 out = 2 := ho
  by_cases hpq : p = q
  · subst hpq
    obtain ⟨I', J', q1, q2, q3⟩ := c_set (d + 2) L g ho hA
    refine ⟨g, I', J', mkI_out L g hI ho (fun x hx => (q1 x hx).1), fX_one q1, by rw [vEx_same hV hp]; exact q2, ?_⟩
    have hw : wI p = nI p := by unfold wI; rw [if_neg (by omega)]
    rw [c_Maker_replace, e_Maker_replace_0, hw, jif_t rfl, if_pos k3, q3, jcV_some, e_Maker_replace_11]
  · have hne : ¬ nI p = wI q := by
      unfold wI
      split
      · rw [show (-1 : Int32) = -nI 1 from rfl, zi_m1e (by omega)]
        exact id
      · exact fun h => hpq ((nI_eq (by omega) (by omega)).mp h)
    obtain ⟨J1, b1, b2, b3⟩ := c_begin (d + 2) L g (I := I) (J := J) (n := A.1) (by omega)
    have ha := kR20 hA.1
    have hoo := kR20 ho
    have i19 : ∀ x, x ≠ 19 → ju (ju (ju I 19 4 (nI A.1)) 19 5 (nI A.1)) 19 6 (nI 0) x = I x := fun x hx => by rw [ju_n hx, ju_n hx, ju_n hx]
    have i7 : ju (ju (ju I 19 4 (nI A.1)) 19 5 (nI A.1)) 19 6 (nI 0) 19 7 = I 19 7 := by rw [zu_k (by omega), zu_k (by omega), zu_k (by omega)]
    have i12 : ju (ju (ju I 19 4 (nI A.1)) 19 5 (nI A.1)) 19 6 (nI 0) 19 12 = I 19 12 := by rw [zu_k (by omega), zu_k (by omega), zu_k (by omega)]
    generalize ju (ju (ju I 19 4 (nI A.1)) 19 5 (nI A.1)) 19 6 (nI 0) = I1 at *
    have hA1 : cR L g I1 J1 a A := cR_cg L g hA rfl (i19 a ha.1) (b1 a ha.2.1)
    obtain ⟨J2, r1, r2, r3⟩ := c_rep_23 (d + 1) L g (out := out) hV hp hq hpq A.1 0 J1 (by omega) hA1 (mkU_cg b2 (fun r _ l _ => by
      unfold fEt
      rw [if_neg (by omega)]
      split <;> rfl) (fEt_lt hV _ _ _ _))
    have hE := kEm_lt10 hV
    obtain ⟨J3, s1, s2, s3⟩ := c_signU (d + 1) L g r2 (show kEm A.2.1 A.1 < 1048576 by omega)
    have hA3 : cR L g I1 J3 a A := cR_cg L g hA1 rfl rfl (by rw [s1 a ha.2.2.1 ha.2.2.2.1 ha.2.2.2.2.1, r1 a ha.2.1])
    have hI1 : mkI L g I1 PC PQ := mkI_cg hI i7 i12 i19
    obtain ⟨g', I', J', f1, f2, f3⟩ := c_finU (d + 1) L hI1 s2 (fun r l => fEo_lt hV p q r l 3) (sim_E hV hp) ho hoC
    have hf : fX L g g' I I' J J' out := fX_trans (fG_X (fG_same (fun x hx => by
      obtain ⟨x1, x2, x3, x4, x5⟩ := mkO_20 hx
      exact ⟨i19 x x1, by rw [s1 x x3 x4 x5, r1 x x2]; exact b1 x x2⟩))) f2
    have eK : jval (d + 3) 35 123 [.ref 19, .ref a, .int (nI p), .int (wI q), .ref out, jjunk, jjunk, jjunk] [] (jGs L g, I1, J3) = jval (d + 3) 35 139 [jjunk, jjunk, jjunk, jjunk, .ref out, jjunk, jjunk, jjunk] [.int (nI (clE A p q 1)), .ref 19] (jGs L g, I1, J3) := by
      rw [e_Maker_replace_123]
      by_cases hq3 : q = 3
      · have hw : wI q = -1 := by unfold wI; rw [if_pos hq3]
        rw [jif_t hw, show (0 : Int32) = nI 0 from rfl, c_closure (d + 1) L g hA3 hp w.1, jcI_some, e_Maker_replace_135]
        unfold clE
        rw [if_pos hq3]
      · have hw : wI q = nI q := by unfold wI; rw [if_neg hq3]
        have hne : ¬ wI q = (-1 : Int32) := by
          rw [hw, show (-1 : Int32) = -nI 1 from rfl, zi_m1e (by omega)]
          exact id
        rw [jif_f hne]
        unfold clE
        rw [if_neg hq3]
        rfl
    have e23 : jcall (d + 4) 35 [.ref 19, .ref a, .int (nI p), .int (wI q), .ref out] (jGs L g, I, J) = jcI (jcall (d + 3) 42 [.ref 19, .int (nI (clE A p q 1)), .ref out] (jGs L g, I1, J3)) (fun r2 S1 => jval (d + 3) 35 144 [jjunk, jjunk, jjunk, jjunk, .ref out, jjunk, jjunk, jjunk] [.int r2] S1) := by
      rw [c_Maker_replace, e_Maker_replace_0, jif_f hne, if_pos k1, hA.2.2.2.2.2, b3, jcV_some, e_Maker_replace_20, show (0 : Int32) = nI 0 from rfl, r3, e_Maker_replace_23, if_pos k1, hA1.2.2.2.2.2, jif_t (nI_le (Nat.le_refl _) (by omega)), if_pos k1, hA1.2.2.2.2.1, s3, jcV_some, eK, e_Maker_replace_139]
    rw [e23]
    have ho' : gK L g' out = 2 := by rw [(hf.2.1 out hoC).1]; exact ho
    have k3' : (jGs L g').1 out = 2 := ho'
    rcases f3 with ⟨V, v1, v2, v3⟩ | ⟨v1, v2, v3, v4⟩
    · refine ⟨g', I', J', f1, hf, ?_, ?_⟩
      · unfold vEx; rw [v1, Option.getD_some]; exact v2
      · rw [v3, jcI_some, e_Maker_replace_144, jif_f (by decide), e_Maker_replace_152]
    · obtain ⟨I2, J4, q1, q2, q3⟩ := c_makeAll (d + 2) L g' (I := I') (J := J') ho'
      refine ⟨g', I2, J4, mkI_out L g' f1 ho' (fun x hx => (q1 x hx).1), fX_trans hf (fX_one q1), ?_, ?_⟩
      · unfold vEx; rw [v1]; exact q2
      · rw [v4, jcI_some, e_Maker_replace_144, jif_t (by decide), if_pos k3', q3, jcV_some, e_Maker_replace_152]
end CC

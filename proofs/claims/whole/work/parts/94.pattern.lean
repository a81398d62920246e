/-! THE PATTERNS: what is read, and the class's reader -/
set_option maxRecDepth 100000
abbrev pT : Type := Bool × Nat × Nat
def orT (x y : pT) : pT := (x.1 || y.1, x.2.1 ||| y.2.1, x.2.2 ||| y.2.2)
def flw (bh : Nat → Nat) (la fi : Nat) (p : Nat) : Nat := if la.testBit p then bh p ||| fi else bh p
def lay (y f : pT) : pT := (y.1 && f.1, y.2.1 ||| (if y.1 then f.2.1 else 0), f.2.2 ||| (if f.1 then y.2.2 else 0))
/-- depth, factor that waits, eithers, rows, letters, behind, ofLetter -/
abbrev pS : Type := Nat × Option pT × (Nat → pT) × (Nat → pT) × Nat × (Nat → Nat) × (Nat → Nat)
def tEm : pT := (true, 0, 0)
def tNo : pT := (false, 0, 0)
def stl (S : pS) : pS := match S.2.1 with
  | none => S
  | some f => (S.1, none, S.2.2.1, jup S.2.2.2.1 S.1 (lay (S.2.2.2.1 S.1) f), S.2.2.2.2.1, flw S.2.2.2.2.2.1 (S.2.2.2.1 S.1).2.2 f.2.1, S.2.2.2.2.2.2)
def isL (c : Nat) : Bool := decide (c = 46 ∨ c = 97 ∨ c = 98 ∨ c = 99)
def adL (ol : Nat → Nat) (c n l : Nat) : Nat := if c = 46 ∨ c = 97 + l then ol l ||| 2 ^ n else ol l
def act (S : pS) (c : Nat) : Option pS :=
  if c = 40 then some (S.1 + 1, none, jup S.2.2.1 (S.1 + 1) tNo, jup S.2.2.2.1 (S.1 + 1) tEm, S.2.2.2.2)
  else if c = 41 then (if S.1 = 0 then none else some (S.1 - 1, some (orT (S.2.2.1 S.1) (S.2.2.2.1 S.1)), S.2.2))
  else if c = 124 then some (S.1, none, jup S.2.2.1 S.1 (orT (S.2.2.1 S.1) (S.2.2.2.1 S.1)), jup S.2.2.2.1 S.1 tEm, S.2.2.2.2)
  else if isL c then (if S.2.2.2.2.1 = 10 then none else some (S.1, some (false, 2 ^ S.2.2.2.2.1, 2 ^ S.2.2.2.2.1), S.2.2.1, S.2.2.2.1, S.2.2.2.2.1 + 1, S.2.2.2.2.2.1, adL S.2.2.2.2.2.2 c S.2.2.2.2.1))
  else none
def rep (S : pS) (f : pT) (c : Nat) : pS := stl (S.1, some (true, f.2.1, f.2.2), S.2.2.1, S.2.2.2.1, S.2.2.2.2.1, (if c = 42 then flw S.2.2.2.2.2.1 f.2.2 f.2.1 else S.2.2.2.2.2.1), S.2.2.2.2.2.2)
def tk (S : pS) (c : Nat) : Option pS := if c = 42 ∨ c = 63 then S.2.1.map (fun f => rep S f c) else act (stl S) c
/-- the reading of c from i on -/
def rn (c : Nat → Nat) : Nat → Nat → pS → Option pS × Nat
  | 0, i, S => if S.1 = 0 then (some (stl S), 0) else (none, i)
  | f + 1, i, S => if c i = 32 then rn c f (i + 1) S else match tk S (c i) with
    | none => (none, i)
    | some S' => rn c f (i + 1) S'
def pS0 : pS := (0, none, fun _ => tNo, fun _ => tEm, 0, fun _ => 0, fun _ => 0)
/-- bounds -/
def tB (n : Nat) (t : pT) : Prop := t.2.1 < 2 ^ n ∧ t.2.2 < 2 ^ n
def pB (S : pS) : Prop := S.2.2.2.2.1 ≤ 10 ∧ (∀ k, tB S.2.2.2.2.1 (S.2.2.1 k) ∧ tB S.2.2.2.2.1 (S.2.2.2.1 k)) ∧ (∀ f, S.2.1 = some f → tB S.2.2.2.2.1 f) ∧ ∀ l, S.2.2.2.2.2.2 l < 2 ^ S.2.2.2.2.1
theorem tB_mono {n m : Nat} {t : pT} (h : tB n t) (hm : n ≤ m) : tB m t := ⟨Nat.lt_of_lt_of_le h.1 (Nat.pow_le_pow_right (by omega) hm), Nat.lt_of_lt_of_le h.2 (Nat.pow_le_pow_right (by omega) hm)⟩
theorem tB_or {n : Nat} {x y : pT} (hx : tB n x) (hy : tB n y) : tB n (orT x y) := ⟨Nat.or_lt_two_pow hx.1 hy.1, Nat.or_lt_two_pow hx.2 hy.2⟩
theorem tB_E (n : Nat) : tB n tEm := ⟨Nat.two_pow_pos n, Nat.two_pow_pos n⟩
theorem tB_N (n : Nat) : tB n tNo := ⟨Nat.two_pow_pos n, Nat.two_pow_pos n⟩
theorem if_lt {p : Prop} [Decidable p] {a b n : Nat} (ha : a < n) (hb : b < n) : (if p then a else b) < n := by split <;> assumption
theorem tB_lay {n : Nat} {x y : pT} (hx : tB n x) (hy : tB n y) : tB n (lay x y) := ⟨Nat.or_lt_two_pow hx.1 (if_lt hy.1 (Nat.two_pow_pos n)), Nat.or_lt_two_pow hy.2 (if_lt hx.2 (Nat.two_pow_pos n))⟩
theorem tB_jup {n k j : Nat} {X : Nat → pT} {t : pT} (h : ∀ k, tB n (X k)) (ht : tB n t) : tB n (jup X j t k) := by
  by_cases hk : k = j
  · rw [hk, jup_s]; exact ht
  · rw [jup_n hk]; exact h k
theorem pB_stl {S : pS} (h : pB S) : pB (stl S) := by
  obtain ⟨d, p, X, Y, n, bh, ol⟩ := S
  obtain ⟨h1, h2, h3, h4⟩ := h
  cases p with
  | none => exact ⟨h1, h2, h3, h4⟩
  | some f => exact ⟨h1, fun k => ⟨(h2 k).1, tB_jup (fun k => (h2 k).2) (tB_lay (h2 d).2 (h3 f rfl))⟩, fun f e => absurd e (by simp [stl]), h4⟩
theorem pB_act {S S' : pS} {c : Nat} (h : pB S) (hp : S.2.1 = none) (he : act S c = some S') : pB S' := by
  obtain ⟨d, p, X, Y, n, bh, ol⟩ := S
  obtain ⟨h1, h2, h3, h4⟩ := h
  unfold act at he
  split at he
  · cases he
    exact ⟨h1, fun k => ⟨tB_jup (fun k => (h2 k).1) (tB_N _), tB_jup (fun k => (h2 k).2) (tB_E _)⟩, fun f e => absurd e (by simp), h4⟩
  · split at he
    · split at he
      · cases he
      · cases he
        exact ⟨h1, h2, fun f e => by cases e; exact tB_or (h2 d).1 (h2 d).2, h4⟩
    · split at he
      · cases he
        exact ⟨h1, fun k => ⟨tB_jup (fun k => (h2 k).1) (tB_or (h2 d).1 (h2 d).2), tB_jup (fun k => (h2 k).2) (tB_E _)⟩, fun f e => absurd e (by simp), h4⟩
      · split at he
        · split at he
          · cases he
          · rename_i hn
            cases he
            have hn' : n ≠ 10 := hn
            have h1' : n ≤ 10 := h1
            have hlt : 2 ^ n < 2 ^ (n + 1) := Nat.pow_lt_pow_right (by omega) (by omega)
            refine ⟨show n + 1 ≤ 10 by omega, fun k => ⟨tB_mono (h2 k).1 (Nat.le_succ n), tB_mono (h2 k).2 (Nat.le_succ n)⟩, fun f e => by cases e; exact ⟨hlt, hlt⟩, fun l => ?_⟩
            have hl : ol l < 2 ^ (n + 1) := Nat.lt_trans (h4 l) hlt
            show adL ol c n l < 2 ^ (n + 1)
            unfold adL
            split
            · exact Nat.or_lt_two_pow hl hlt
            · exact hl
        · cases he
theorem stl_p (S : pS) : (stl S).2.1 = none := by
  obtain ⟨d, p, X, Y, n, bh, ol⟩ := S
  cases p <;> rfl
theorem stl_d (S : pS) : (stl S).1 = S.1 := by
  obtain ⟨d, p, X, Y, n, bh, ol⟩ := S
  cases p <;> rfl
theorem stl_none {S : pS} (h : S.2.1 = none) : stl S = S := by
  obtain ⟨d, p, X, Y, n, bh, ol⟩ := S
  have : p = none := h
  subst this
  rfl
theorem stl_stl (S : pS) : stl (stl S) = stl S := stl_none (stl_p S)
theorem pB_rep {S : pS} {f : pT} {c : Nat} (h : pB S) (hf : S.2.1 = some f) : pB (rep S f c) := pB_stl ⟨h.1, h.2.1, fun f' e => by cases e; exact h.2.2.1 f hf, h.2.2.2⟩
theorem pB_tk {S S' : pS} {c : Nat} (h : pB S) (he : tk S c = some S') : pB S' := by
  unfold tk at he
  split at he
  · cases hp : S.2.1 with
    | none => rw [hp] at he; cases he
    | some f => rw [hp] at he; cases he; exact pB_rep h hp
  · exact pB_act (pB_stl h) (stl_p S) he
theorem tk_d {S S' : pS} {c : Nat} (he : tk S c = some S') : S'.1 ≤ S.1 + 1 := by
  unfold tk at he
  split at he
  · cases hp : S.2.1 with
    | none => rw [hp] at he; cases he
    | some f => rw [hp] at he; cases he; show (stl _).1 ≤ _; rw [stl_d]; exact Nat.le_succ _
  · rw [← stl_d S]
    unfold act at he
    split at he
    · cases he; exact Nat.le_refl _
    · split at he
      · split at he
        · cases he
        · cases he; show (stl S).1 - 1 ≤ _; omega
      · split at he
        · cases he; exact Nat.le_succ _
        · split at he
          · split at he
            · cases he
            · cases he; exact Nat.le_succ _
          · cases he
theorem pB_0 : pB pS0 := ⟨Nat.zero_le _, fun k => ⟨tB_N _, tB_E _⟩, fun f e => absurd e (by simp [pS0]), fun l => Nat.two_pow_pos _⟩
/-- the class's word -/
def wd (t : pT) : Nat := 2 ^ 10 * (2 ^ 10 * (if t.1 then 1 else 0) + t.2.2) + t.2.1
theorem b01 (e : Bool) (i : Nat) : ((if e then 1 else 0 : Nat)).testBit i = (e && decide (i = 0)) := by
  cases e
  · simp
  · rw [if_pos rfl, Bool.true_and]
    cases i with
    | zero => rfl
    | succ i => rw [decide_eq_false (by omega), Nat.testBit_succ]; simp
theorem wd_tb {t : pT} (h : tB 10 t) (i : Nat) : (wd t).testBit i = if i < 10 then t.2.1.testBit i else if i - 10 < 10 then t.2.2.testBit (i - 10) else (t.1 && decide (i - 10 - 10 = 0)) := by
  unfold wd
  rw [Nat.testBit_two_pow_mul_add _ h.1, Nat.testBit_two_pow_mul_add _ h.2, b01]
theorem wd_lt {t : pT} (h : tB 10 t) : wd t < 2097152 := by
  obtain ⟨h1, h2⟩ := h
  unfold wd
  split <;> omega
theorem wd_f {t : pT} (h : tB 10 t) : wd t &&& 1023 = t.2.1 := by
  rw [show (1023 : Nat) = 2 ^ 10 - 1 from rfl, Nat.and_two_pow_sub_one_eq_mod]
  obtain ⟨h1, h2⟩ := h
  unfold wd
  omega
theorem wd_l {t : pT} (h : tB 10 t) : wd t / 2 ^ 10 &&& 1023 = t.2.2 := by
  rw [show (1023 : Nat) = 2 ^ 10 - 1 from rfl, Nat.and_two_pow_sub_one_eq_mod]
  obtain ⟨h1, h2⟩ := h
  unfold wd
  omega
theorem wd_e {t : pT} (h : tB 10 t) : wd t &&& 1048576 = if t.1 then 1048576 else 0 := by
  have he : (if t.1 then 1048576 else 0 : Nat) = 2 ^ 20 * (if t.1 then 1 else 0) := by cases t.1 <;> rfl
  apply Nat.eq_of_testBit_eq
  intro i
  rw [he, show (1048576 : Nat) = 2 ^ 20 from rfl, Nat.testBit_and, Nat.testBit_two_pow, Nat.testBit_two_pow_mul, b01]
  by_cases hi : 20 = i
  · subst hi
    rw [wd_tb h, if_neg (by omega), if_neg (by omega)]
    simp
  · rw [decide_eq_false hi, Bool.and_false]
    by_cases h2 : 20 ≤ i
    · rw [decide_eq_false (show ¬ i - 20 = 0 by omega)]; simp
    · rw [decide_eq_false h2]; simp
theorem tb_1047552 (i : Nat) : (1047552 : Nat).testBit i = (decide (10 ≤ i) && decide (i - 10 < 10)) := by
  rw [show (1047552 : Nat) = 2 ^ 10 * (2 ^ 10 - 1) from rfl, Nat.testBit_two_pow_mul, Nat.testBit_two_pow_sub_one]
theorem wd_m {t : pT} (h : tB 10 t) : wd t &&& 1047552 = 2 ^ 10 * t.2.2 := by
  apply Nat.eq_of_testBit_eq
  intro i
  rw [Nat.testBit_and, wd_tb h, tb_1047552, Nat.testBit_two_pow_mul]
  by_cases h1 : i < 10
  · rw [if_pos h1, decide_eq_false (by omega)]; simp
  · rw [if_neg h1, decide_eq_true (show 10 ≤ i by omega)]
    by_cases h2 : i - 10 < 10
    · rw [if_pos h2, decide_eq_true h2]; simp
    · rw [if_neg h2, decide_eq_false h2, Nat.testBit_lt_two_pow (Nat.lt_of_lt_of_le h.2 (Nat.pow_le_pow_right (by omega) (by omega)))]; simp
theorem wd_or {x y : pT} (hx : tB 10 x) (hy : tB 10 y) : wd x ||| wd y = wd (orT x y) := by
  apply Nat.eq_of_testBit_eq
  intro i
  rw [Nat.testBit_or, wd_tb hx, wd_tb hy, wd_tb (tB_or hx hy)]
  unfold orT
  split
  · rw [Nat.testBit_or]
  · split
    · rw [Nat.testBit_or]
    · cases x.1 <;> cases y.1 <;> simp
theorem sh_or (a b : Nat) : 2 ^ 10 * a ||| 2 ^ 10 * b = 2 ^ 10 * (a ||| b) := by
  apply Nat.eq_of_testBit_eq
  intro i
  rw [Nat.testBit_or, Nat.testBit_two_pow_mul, Nat.testBit_two_pow_mul, Nat.testBit_two_pow_mul, Nat.testBit_or]
  cases decide (10 ≤ i) <;> simp
theorem wd_mk {e : Bool} {f l : Nat} (hf : f < 2 ^ 10) (hl : l < 2 ^ 10) : (f ||| 2 ^ 10 * l) ||| (if e then 1048576 else 0) = wd (e, f, l) := by
  apply Nat.eq_of_testBit_eq
  intro i
  rw [Nat.testBit_or, Nat.testBit_or, wd_tb ⟨hf, hl⟩, Nat.testBit_two_pow_mul]
  have he : (if e then 1048576 else 0 : Nat) = 2 ^ 20 * (if e then 1 else 0) := by cases e <;> rfl
  rw [he, Nat.testBit_two_pow_mul, b01]
  by_cases h1 : i < 10
  · rw [if_pos h1, decide_eq_false (by omega), decide_eq_false (by omega)]; simp
  · rw [if_neg h1, decide_eq_true (show 10 ≤ i by omega), Nat.testBit_lt_two_pow (Nat.lt_of_lt_of_le hf (Nat.pow_le_pow_right (by omega) (by omega)))]
    by_cases h2 : i - 10 < 10
    · rw [if_pos h2, decide_eq_false (show ¬ 20 ≤ i by omega)]; simp
    · rw [if_neg h2, Nat.testBit_lt_two_pow (Nat.lt_of_lt_of_le hl (Nat.pow_le_pow_right (by omega) (by omega))), decide_eq_true (show 20 ≤ i by omega), show i - 20 = i - 10 - 10 by omega]; simp
theorem wd_E : wd tEm = 1048576 := rfl
theorem wd_N : wd tNo = 0 := rfl
theorem wd_setE {t : pT} (h : tB 10 t) : wd t ||| 1048576 = wd (true, t.2.1, t.2.2) := by
  rw [← wd_E, wd_or h (tB_E 10)]
  unfold orT tEm
  rw [Bool.or_true, Nat.or_zero, Nat.or_zero]
section CC
variable (d L : Nat) (g : jG) {J : Nat → Nat → Int64}
/-- the class's reader holds S -/
def cPS (S : pS) (I : Nat → Nat → Int32) : Prop := I 30 2 = nI S.1 ∧ (match S.2.1 with | none => I 30 4 = nI 0 | some f => I 30 4 = nI 1 ∧ I 30 3 = nI (wd f)) ∧ (∀ k, k ≤ S.1 → I 31 k = nI (wd (S.2.2.1 k)) ∧ I 32 k = nI (wd (S.2.2.2.1 k))) ∧ I 30 5 = nI S.2.2.2.2.1 ∧ (∀ p, p < 10 → I 33 p = nI (S.2.2.2.2.2.1 p)) ∧ ∀ l, l < 3 → I 34 l = nI (S.2.2.2.2.2.2 l)
def cPf (I I' : Nat → Nat → Int32) : Prop := ∀ y, y ≠ 30 → y ≠ 31 → y ≠ 32 → y ≠ 33 → y ≠ 34 → I' y = I y
theorem cPf_t {I I1 I2 : Nat → Nat → Int32} (h : cPf I I1) (h' : cPf I1 I2) : cPf I I2 := fun y a b c d e => (h' y a b c d e).trans (h y a b c d e)
theorem c_flw_2 {la fi : Nat} (hla : la < 1024) {bh : Nat → Nat} : ∀ m p (I : Nat → Nat → Int32), p + m = 10 → (∀ x, x < p → I 33 x = nI (flw bh la fi x)) → (∀ x, p ≤ x → x < 10 → I 33 x = nI (bh x)) → ∃ I', (∀ y, y ≠ 33 → I' y = I y) ∧ (∀ x, x < 10 → I' 33 x = nI (flw bh la fi x)) ∧ jval d 59 2 [.ref 30, .int (nI la), .int (nI fi), .int (nI p)] [] (jGs L g, I, J) = some (none, (jGs L g, I', J)) := by
  intro m
  induction m with
  | zero =>
    intro p I hp h1 h2
    have : p = 10 := by omega
    subst this
    refine ⟨I, fun _ _ => rfl, h1, ?_⟩
    rw [e_PatternReader_follow_2, jif_t (by decide)]
  | succ m ih =>
    intro p I hp h1 h2
    have hb : nI (la / 2 ^ p) &&& (1 : Int32) = bI (la.testBit p) := by
      rw [show (1 : Int32) = nI 1 from rfl, nx_and, Nat.and_one_is_mod, Nat.testBit_eq_decide_div_mod_eq]
      rcases Nat.mod_two_eq_zero_or_one (la / 2 ^ p) with h | h <;> rw [h] <;> rfl
    have hs : jsru (nI la) (nI p) = nI (la / 2 ^ p) := zi_sru (by omega) (by omega)
    rw [e_PatternReader_follow_2, jif_f (show ¬ (10 : Int32) ≤ nI p from nI_ge (a := p) (b := 10) (by omega) (by omega)), hs, hb]
    cases ht : la.testBit p
    · obtain ⟨I', q1, q2, q3⟩ := ih (p + 1) I (by omega) (fun x hx => by
        by_cases hxp : x = p
        · rw [hxp, h2 p (Nat.le_refl _) (by omega), flw, ht, if_neg (by decide)]
        · exact h1 x (by omega)) (fun x hx => h2 x (by omega))
      refine ⟨I', q1, q2, ?_⟩
      rw [jif_t (by decide), e_PatternReader_follow_26, nI_1]
      exact q3
    · obtain ⟨I', q1, q2, q3⟩ := ih (p + 1) (ju I 33 p (nI (bh p ||| fi))) (by omega) (fun x hx => by
        by_cases hxp : x = p
        · rw [hxp, zu_at, flw, ht, if_pos rfl]
        · rw [zu_k hxp]; exact h1 x (by omega)) (fun x hx hx2 => by rw [zu_k (by omega)]; exact h2 x (by omega) hx2)
      refine ⟨I', fun y hy => (q1 y hy).trans (ju_n hy), q2, ?_⟩
      rw [jif_f (by decide), jin_nI (by omega) (by omega), nI_c (by omega), cond_true, cond_true, h2 p (Nat.le_refl _) (by omega), nx_or, e_PatternReader_follow_26, nI_1]
      exact q3
theorem c_follow {la fi : Nat} {bh : Nat → Nat} {I : Nat → Nat → Int32} (hla : la < 1024) (h : ∀ x, x < 10 → I 33 x = nI (bh x)) : ∃ I', (∀ y, y ≠ 33 → I' y = I y) ∧ (∀ x, x < 10 → I' 33 x = nI (flw bh la fi x)) ∧ jcall (d + 1) 59 [.ref 30, .int (nI la), .int (nI fi)] (jGs L g, I, J) = some (none, (jGs L g, I', J)) := by
  obtain ⟨I', q1, q2, q3⟩ := c_flw_2 d L g (J := J) hla 10 0 I (by omega) (fun x hx => absurd hx (by omega)) (fun x _ hx => h x hx)
  refine ⟨I', q1, q2, ?_⟩
  rw [c_PatternReader_follow, e_PatternReader_follow_0]
  exact q3
theorem tB_10 {n : Nat} {t : pT} (h : tB n t) (hn : n ≤ 10) : tB 10 t := tB_mono h hn
theorem c_settle {S : pS} {I : Nat → Nat → Int32} (h : cPS S I) (hB : pB S) (hd : S.1 < 121) : ∃ I', cPf I I' ∧ cPS (stl S) I' ∧ jcall (d + 2) 58 [.ref 30] (jGs L g, I, J) = some (none, (jGs L g, I', J)) := by
  obtain ⟨D, p, X, Y, n, bh, ol⟩ := S
  obtain ⟨h1, h2, h3, h4, h5, h6⟩ := h
  cases p with
  | none =>
    refine ⟨I, fun _ _ _ _ _ _ => rfl, ⟨h1, h2, h3, h4, h5, h6⟩, ?_⟩
    rw [c_PatternReader_settle, e_PatternReader_settle_0, jif_t (show I 30 4 = 0 from h2)]
  | some f =>
    have hf : tB 10 f := tB_10 (hB.2.2.1 f rfl) hB.1
    have hy : tB 10 (Y D) := tB_10 (hB.2.1 D).2 hB.1
    have hd' : D < 121 := hd
    have h1' : I 30 2 = nI D := h1
    have hw : I 30 3 = nI (wd f) := h2.2
    have hY : I 32 D = nI (wd (Y D)) := (h3 D (Nat.le_refl _)).2
    have hlt := wd_lt hy
    have hltf := wd_lt hf
    have e1 : jsru (nI (wd (Y D))) (10 : Int32) &&& (1023 : Int32) = nI (Y D).2.2 := by
      rw [show (10 : Int32) = nI 10 from rfl, zi_sru (by omega) (by omega), show (1023 : Int32) = nI 1023 from rfl, nx_and, wd_l hy]
    have e2 : nI (wd f) &&& (1023 : Int32) = nI f.2.1 := by rw [show (1023 : Int32) = nI 1023 from rfl, nx_and, wd_f hf]
    have e2' : nI (wd (Y D)) &&& (1023 : Int32) = nI (Y D).2.1 := by rw [show (1023 : Int32) = nI 1023 from rfl, nx_and, wd_f hy]
    have e3 : nI (wd f) &&& (1048576 : Int32) = nI (if f.1 then 1048576 else 0) := by rw [show (1048576 : Int32) = nI 1048576 from rfl, nx_and, wd_e hf]
    have e3' : nI (wd (Y D)) &&& (1048576 : Int32) = nI (if (Y D).1 then 1048576 else 0) := by rw [show (1048576 : Int32) = nI 1048576 from rfl, nx_and, wd_e hy]
    have e4 : nI (wd f) &&& (1047552 : Int32) = nI (2 ^ 10 * f.2.2) := by rw [show (1047552 : Int32) = nI 1047552 from rfl, nx_and, wd_m hf]
    have e4' : nI (wd (Y D)) &&& (1047552 : Int32) = nI (2 ^ 10 * (Y D).2.2) := by rw [show (1047552 : Int32) = nI 1047552 from rfl, nx_and, wd_m hy]
    have e5 : (nI (wd (Y D)) &&& nI (wd f)) &&& (1048576 : Int32) = nI (if (Y D).1 && f.1 then 1048576 else 0) := by
      rw [show (1048576 : Int32) = nI 1048576 from rfl, nx_and, nx_and, Nat.and_assoc, wd_e hf]
      cases f.1
      · simp
      · rw [if_pos rfl, wd_e hy, Bool.and_true]
    obtain ⟨I1, q1, q2, q3⟩ := c_follow d L g (J := J) (la := (Y D).2.2) (fi := f.2.1) (bh := bh) (I := ju I 30 4 (nI 0)) hy.2 (fun x hx => by rw [zu_a (by omega)]; exact h5 x hx)
    have r30 : I1 30 = ju I 30 4 (nI 0) 30 := q1 30 (by omega)
    have g2 : I1 30 2 = nI D := by rw [r30, zu_k (by omega)]; exact h1
    have g3 : I1 30 3 = nI (wd f) := by rw [r30, zu_k (by omega)]; exact hw
    have fin : jval (d + 1) 58 43 [.ref 30, .int (nI (wd (Y D))), jjunk, jjunk] [] (jGs L g, I1, J) = some (none, (jGs L g, ju I1 32 D (nI (wd (lay (Y D) f))), J)) := by
      have hl := tB_lay hy hf
      have hw' : wd (lay (Y D) f) = ((Y D).2.1 ||| (if (Y D).1 then f.2.1 else 0)) ||| 2 ^ 10 * (f.2.2 ||| (if f.1 then (Y D).2.2 else 0)) ||| (if (Y D).1 && f.1 then 1048576 else 0) := (wd_mk hl.1 hl.2).symm
      have last : ∀ x2 x3, x2 = (Y D).2.1 ||| (if (Y D).1 then f.2.1 else 0) → x3 = 2 ^ 10 * (f.2.2 ||| (if f.1 then (Y D).2.2 else 0)) → jval (d + 1) 58 92 [.ref 30, .int (nI (wd (Y D))), .int (nI x2), .int (nI x3)] [] (jGs L g, I1, J) = some (none, (jGs L g, ju I1 32 D (nI (wd (lay (Y D) f))), J)) := by
        intro x2 x3 hx2 hx3
        rw [e_PatternReader_settle_92, g2, jin_nI (by omega) (by omega), nI_c (by omega), cond_true, g3, e5, nx_or, nx_or, hw', hx2, hx3]
      have mid : ∀ x2, x2 = (Y D).2.1 ||| (if (Y D).1 then f.2.1 else 0) → jval (d + 1) 58 67 [.ref 30, .int (nI (wd (Y D))), .int (nI x2), jjunk] [] (jGs L g, I1, J) = some (none, (jGs L g, ju I1 32 D (nI (wd (lay (Y D) f))), J)) := by
        intro x2 hx2
        rw [e_PatternReader_settle_67, g3, e3, e4, e4']
        by_cases hf1 : f.1 = true
        · rw [if_pos hf1, jif_f (by decide), nx_or, sh_or]
          exact last x2 _ hx2 (by rw [if_pos hf1])
        · rw [if_neg hf1, jif_t (by decide)]
          exact last x2 _ hx2 (by rw [if_neg hf1, Nat.or_zero])
      rw [e_PatternReader_settle_43, g3, e3', e2, e2']
      by_cases hy1 : (Y D).1 = true
      · rw [if_pos hy1, jif_f (by decide), nx_or]
        exact mid _ (by rw [if_pos hy1])
      · rw [if_neg hy1, jif_t (by decide)]
        exact mid _ (by rw [if_neg hy1, Nat.or_zero])
    refine ⟨ju I1 32 D (nI (wd (lay (Y D) f))), fun y a b c d e => by rw [ju_n c, q1 y d, ju_n a], ⟨?_, ?_, fun k hk => ?_, ?_, fun x hx => ?_, fun l hl => ?_⟩, ?_⟩
    · show ju I1 32 D _ 30 2 = nI D
      rw [zu_a (by omega)]; exact g2
    · show ju I1 32 D _ 30 4 = nI 0
      rw [zu_a (by omega), r30, zu_at]
    · have hk' : k ≤ D := hk
      show ju I1 32 D _ 31 k = _ ∧ ju I1 32 D _ 32 k = nI (wd (jup Y D (lay (Y D) f) k))
      refine ⟨by rw [zu_a (by omega), q1 31 (by omega), zu_a (by omega)]; exact (h3 k hk').1, ?_⟩
      by_cases hkD : k = D
      · rw [hkD, zu_at, jup_s]
      · rw [zu_k hkD, jup_n hkD, q1 32 (by omega), zu_a (by omega)]; exact (h3 k hk').2
    · show ju I1 32 D _ 30 5 = nI n
      rw [zu_a (by omega), r30, zu_k (by omega)]; exact h4
    · show ju I1 32 D _ 33 x = nI (flw bh (Y D).2.2 f.2.1 x)
      rw [zu_a (by omega)]; exact q2 x hx
    · show ju I1 32 D _ 34 l = nI (ol l)
      rw [zu_a (by omega), q1 34 (by omega), zu_a (by omega)]; exact h6 l hl
    · rw [c_PatternReader_settle, e_PatternReader_settle_0, jif_f (show ¬ I 30 4 = 0 by rw [h2.1]; decide), jif_t (Or.inl rfl), h1', jin_nI (by omega) (by omega), nI_c (by omega), cond_true, hw, hY, e1, e2, show (0 : Int32) = nI 0 from rfl, q3, jcV_some]
      exact fin
end CC

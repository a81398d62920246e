/-! THE CLASS: a pattern is read -/
set_option maxRecDepth 100000
section CC
variable (d L : Nat) (g : jG) {J : Nat → Nat → Int64}
theorem c_adl {ol : Nat → Nat} {c n : Nat} (hc : c < 128) {I : Nat → Nat → Int32} {l : Nat} (hl : l < 3) (h : I 34 l = nI (ol l)) : ∃ I', (∀ y, y ≠ 34 → I' y = I y) ∧ (∀ x, x ≠ l → I' 34 x = I 34 x) ∧ I' 34 l = nI (adL ol c n l) ∧ jval d 55 20 [.ref 30, .int (nI c), .int (nI (2 ^ n)), .int (nI l)] [] (jGs L g, I, J) = jval d 55 20 [.ref 30, .int (nI c), .int (nI (2 ^ n)), .int (nI (l + 1))] [] (jGs L g, I', J) := by
  have e3 : ¬ (3 : Int32) ≤ nI l := nI_ge (a := l) (b := 3) hl (by omega)
  have e39 : jval d 55 39 [.ref 30, .int (nI c), .int (nI (2 ^ n)), .int (nI l)] [] (jGs L g, I, J) = jval d 55 20 [.ref 30, .int (nI c), .int (nI (2 ^ n)), .int (nI (l + 1))] [] (jGs L g, ju I 34 l (nI (ol l ||| 2 ^ n)), J) := by
    rw [e_PatternReader_addLetter_39, jin_nI (by omega) (by omega), nI_c (by omega), cond_true, cond_true, h, nx_or, e_PatternReader_addLetter_49, nI_1]
  unfold adL
  by_cases h46 : c = 46
  · refine ⟨ju I 34 l (nI (ol l ||| 2 ^ n)), fun y hy => ju_n hy, fun x hx => zu_k hx, by rw [zu_at, if_pos (Or.inl h46)], ?_⟩
    rw [e_PatternReader_addLetter_20, jif_f e3, jif_t (by rw [h46]; rfl)]
    exact e39
  · have n46 : ¬ nI c = (46 : Int32) := fun e => h46 ((nI_eq (b := 46) (by omega) (by omega)).mp e)
    by_cases hcl : c = 97 + l
    · refine ⟨ju I 34 l (nI (ol l ||| 2 ^ n)), fun y hy => ju_n hy, fun x hx => zu_k hx, by rw [zu_at, if_pos (Or.inr hcl)], ?_⟩
      rw [e_PatternReader_addLetter_20, jif_f e3, jif_f n46, jif_t (by rw [show (97 : Int32) = nI 97 from rfl, nI_add, hcl])]
      exact e39
    · refine ⟨I, fun _ _ => rfl, fun _ _ => rfl, by rw [if_neg (by omega)]; exact h, ?_⟩
      rw [e_PatternReader_addLetter_20, jif_f e3, jif_f n46, jif_f (by rw [show (97 : Int32) = nI 97 from rfl, nI_add]; exact fun e => hcl ((nI_eq (by omega) (by omega)).mp e)), e_PatternReader_addLetter_49, nI_1]
theorem c_addLetter {S : pS} {I : Nat → Nat → Int32} {c : Nat} (hc : c < 128) (h : cPS S I) (hB : pB S) (hp : S.2.1 = none) (hL : isL c = true) : ∃ I', cPf I I' ∧ ((∃ S', act S c = some S' ∧ cPS S' I' ∧ jcall (d + 1) 55 [.ref 30, .int (nI c)] (jGs L g, I, J) = some (some (.int (nI 1)), (jGs L g, I', J))) ∨ (act S c = none ∧ jcall (d + 1) 55 [.ref 30, .int (nI c)] (jGs L g, I, J) = some (some (.int (nI 0)), (jGs L g, I', J)))) := by
  obtain ⟨D, p, X, Y, n, bh, ol⟩ := S
  obtain ⟨h1, h2, h3, h4, h5, h6⟩ := h
  have hn : n ≤ 10 := hB.1
  have h4' : I 30 5 = nI n := h4
  have hact : act (D, p, X, Y, n, bh, ol) c = if n = 10 then none else some (D, some (false, 2 ^ n, 2 ^ n), X, Y, n + 1, bh, adL ol c n) := by
    have hl : c = 46 ∨ c = 97 ∨ c = 98 ∨ c = 99 := of_decide_eq_true hL
    unfold act
    rw [if_neg (by omega), if_neg (by omega), if_neg (by omega), if_pos hL]
  rw [hact]
  by_cases h10 : n = 10
  · refine ⟨I, fun _ _ _ _ _ _ => rfl, Or.inr ⟨if_pos h10, ?_⟩⟩
    rw [c_PatternReader_addLetter, e_PatternReader_addLetter_0, h4', jif_f (by rw [h10]; decide), jif_t (Or.inl rfl)]
    rfl
  · obtain ⟨I1, a1, a2, a3, a4⟩ := c_adl d L g (J := J) (n := n) hc (l := 0) (by omega) (h6 0 (by omega))
    obtain ⟨I2, b1, b2, b3, b4⟩ := c_adl d L g (J := J) (ol := ol) (n := n) hc (I := I1) (l := 1) (by omega) (by rw [a2 1 (by omega)]; exact h6 1 (by omega))
    obtain ⟨I3, c1, c2, c3, c4⟩ := c_adl d L g (J := J) (ol := ol) (n := n) hc (I := I2) (l := 2) (by omega) (by rw [b2 2 (by omega), a2 2 (by omega)]; exact h6 2 (by omega))
    have F : ∀ y, y ≠ 34 → I3 y = I y := fun y hy => by rw [c1 y hy, b1 y hy, a1 y hy]
    have hw : nI (2 ^ n) ||| nI (2 ^ n) <<< ((10 : Int32) &&& 31) = nI (wd (false, 2 ^ n, 2 ^ n)) := by
      have hlt : 2 ^ n < 2 ^ 10 := Nat.pow_lt_pow_right (by omega) (by omega)
      have hs : nI (2 ^ n) <<< ((10 : Int32) &&& 31) = nI (2 ^ n * 2 ^ 10) := zi_shl (k := 10) (by omega) (by omega)
      rw [hs, nx_or, Nat.mul_comm, ← wd_mk hlt hlt, if_neg (by decide), Nat.or_zero]
    have g5 : I3 30 5 = nI n := by rw [F 30 (by omega)]; exact h4
    refine ⟨ju (ju (ju I3 30 5 (nI (n + 1))) 30 3 (nI (wd (false, 2 ^ n, 2 ^ n)))) 30 4 (nI 1), fun y a b c d e => by rw [ju_n a, ju_n a, ju_n a, F y e], Or.inl ⟨_, if_neg h10, ⟨?_, ?_, fun k hk => ?_, ?_, fun x hx => ?_, fun l hl => ?_⟩, ?_⟩⟩
    · show ju _ 30 4 _ 30 2 = nI D
      rw [zu_k (by omega), zu_k (by omega), zu_k (by omega), F 30 (by omega)]; exact h1
    · show ju _ 30 4 _ 30 4 = nI 1 ∧ ju _ 30 4 _ 30 3 = nI (wd (false, 2 ^ n, 2 ^ n))
      exact ⟨zu_at _ _ _ _, by rw [zu_k (by omega), zu_at]⟩
    · rw [zu_a (by omega), zu_a (by omega), zu_a (by omega), zu_a (by omega), zu_a (by omega), zu_a (by omega), F 31 (by omega), F 32 (by omega)]
      exact h3 k hk
    · show ju _ 30 4 _ 30 5 = nI (n + 1)
      rw [zu_k (by omega), zu_k (by omega), zu_at]
    · rw [zu_a (by omega), zu_a (by omega), zu_a (by omega), F 33 (by omega)]; exact h5 x hx
    · show ju _ 30 4 _ 34 l = nI (adL ol c n l)
      rw [zu_a (by omega), zu_a (by omega), zu_a (by omega)]
      rcases (show l = 0 ∨ l = 1 ∨ l = 2 by omega) with e | e | e
      · rw [e, c2 0 (by omega), b2 0 (by omega), a3]
      · rw [e, c2 1 (by omega), b3]
      · rw [e, c3]
    · have hpw : (1 : Int32) <<< (nI n &&& 31) = nI (2 ^ n) := zi_pow (by omega)
      rw [c_PatternReader_addLetter, e_PatternReader_addLetter_0, h4', jif_t (show nI n < (10 : Int32) from nI_lt (a := n) (b := 10) (by omega) (by omega)), hpw, show (0 : Int32) = nI 0 from rfl, a4, b4, c4, e_PatternReader_addLetter_20, jif_t (show (3 : Int32) ≤ nI (2 + 1) by decide), jif_t (Or.inr rfl), jif_t (Or.inr rfl), hw, g5, nI_1]
      rfl
theorem c_openGroup {S : pS} {I : Nat → Nat → Int32} (h : cPS S I) (hp : S.2.1 = none) (hd : S.1 < 120) : ∃ I', cPf I I' ∧ ∃ S', act S 40 = some S' ∧ cPS S' I' ∧ jcall (d + 1) 56 [.ref 30] (jGs L g, I, J) = some (some (.int (nI 1)), (jGs L g, I', J)) := by
  obtain ⟨D, p, X, Y, n, bh, ol⟩ := S
  have hp' : p = none := hp
  subst hp'
  obtain ⟨h1, h2, h3, h4, h5, h6⟩ := h
  have hd' : D < 120 := hd
  have h1' : I 30 2 = nI D := h1
  refine ⟨ju (ju (ju I 30 2 (nI (D + 1))) 31 (D + 1) (nI 0)) 32 (D + 1) (nI 1048576), fun y a b c d e => by rw [ju_n c, ju_n b, ju_n a], _, rfl, ⟨?_, ?_, fun k hk => ?_, ?_, fun x hx => ?_, fun l hl => ?_⟩, ?_⟩
  · show ju _ 32 (D + 1) _ 30 2 = nI (D + 1)
    rw [zu_a (by omega), zu_a (by omega), zu_at]
  · show ju _ 32 (D + 1) _ 30 4 = nI 0
    rw [zu_a (by omega), zu_a (by omega), zu_k (by omega)]; exact h2
  · have hk' : k ≤ D + 1 := hk
    show ju _ 32 (D + 1) _ 31 k = nI (wd (jup X (D + 1) tNo k)) ∧ ju _ 32 (D + 1) _ 32 k = nI (wd (jup Y (D + 1) tEm k))
    by_cases hkD : k = D + 1
    · rw [hkD, jup_s, jup_s, zu_at, zu_a (by omega), zu_at]
      exact ⟨rfl, rfl⟩
    · rw [jup_n hkD, jup_n hkD, zu_a (by omega), zu_k hkD, zu_a (by omega), zu_k hkD, zu_a (by omega), zu_a (by omega)]
      exact h3 k (show k ≤ D by omega)
  · show ju _ 32 (D + 1) _ 30 5 = nI n
    rw [zu_a (by omega), zu_a (by omega), zu_k (by omega)]; exact h4
  · rw [zu_a (by omega), zu_a (by omega), zu_a (by omega)]; exact h5 x hx
  · rw [zu_a (by omega), zu_a (by omega), zu_a (by omega)]; exact h6 l hl
  · rw [c_PatternReader_openGroup, e_PatternReader_openGroup_0, h1', nI_1, show Int32.ofNat 121 = nI 121 from rfl, jif_f (nI_ge (by omega) (by omega)), jif_t (nI_lt (by omega) (by omega)), jin_nI (by omega) (by omega), nI_c (by omega), cond_true, cond_true, jif_t (Or.inr rfl)]
    rfl
theorem c_closeGroup {S : pS} {I : Nat → Nat → Int32} (h : cPS S I) (hB : pB S) (hp : S.2.1 = none) (hd : S.1 < 121) : ∃ I', cPf I I' ∧ ((∃ S', act S 41 = some S' ∧ cPS S' I' ∧ jcall (d + 1) 57 [.ref 30] (jGs L g, I, J) = some (some (.int (nI 1)), (jGs L g, I', J))) ∨ (act S 41 = none ∧ jcall (d + 1) 57 [.ref 30] (jGs L g, I, J) = some (some (.int (nI 0)), (jGs L g, I', J)))) := by
  obtain ⟨D, p, X, Y, n, bh, ol⟩ := S
  have hp' : p = none := hp
  subst hp'
  obtain ⟨h1, h2, h3, h4, h5, h6⟩ := h
  have hd' : D < 121 := hd
  have h1' : I 30 2 = nI D := h1
  have hact : act (D, none, X, Y, n, bh, ol) 41 = if D = 0 then none else some (D - 1, some (orT (X D) (Y D)), X, Y, n, bh, ol) := rfl
  rw [hact]
  by_cases h0 : D = 0
  · refine ⟨I, fun _ _ _ _ _ _ => rfl, Or.inr ⟨if_pos h0, ?_⟩⟩
    rw [c_PatternReader_closeGroup, e_PatternReader_closeGroup_0, h1', jif_f (by rw [h0]; decide), jif_t (Or.inl rfl)]
    rfl
  · have hx : tB 10 (X D) := tB_10 (hB.2.1 D).1 hB.1
    have hy : tB 10 (Y D) := tB_10 (hB.2.1 D).2 hB.1
    have hXY := h3 D (Nat.le_refl _)
    have hX : I 31 D = nI (wd (X D)) := hXY.1
    have hY : I 32 D = nI (wd (Y D)) := hXY.2
    refine ⟨ju (ju (ju I 30 3 (nI (wd (orT (X D) (Y D))))) 30 4 (nI 1)) 30 2 (nI (D - 1)), fun y a b c d e => by rw [ju_n a, ju_n a, ju_n a], Or.inl ⟨_, if_neg h0, ⟨?_, ?_, fun k hk => ?_, ?_, fun x hx => ?_, fun l hl => ?_⟩, ?_⟩⟩
    · show ju _ 30 2 _ 30 2 = nI (D - 1)
      rw [zu_at]
    · show ju _ 30 2 _ 30 4 = nI 1 ∧ ju _ 30 2 _ 30 3 = nI (wd (orT (X D) (Y D)))
      exact ⟨by rw [zu_k (by omega), zu_at], by rw [zu_k (by omega), zu_k (by omega), zu_at]⟩
    · have hk' : k ≤ D - 1 := hk
      rw [zu_a (by omega), zu_a (by omega), zu_a (by omega), zu_a (by omega), zu_a (by omega), zu_a (by omega)]
      exact h3 k (show k ≤ D by omega)
    · show ju _ 30 2 _ 30 5 = nI n
      rw [zu_k (by omega), zu_k (by omega), zu_k (by omega)]; exact h4
    · rw [zu_a (by omega), zu_a (by omega), zu_a (by omega)]; exact h5 x hx
    · rw [zu_a (by omega), zu_a (by omega), zu_a (by omega)]; exact h6 l hl
    · rw [c_PatternReader_closeGroup, e_PatternReader_closeGroup_0, h1', jif_t (show (0 : Int32) < nI D from nI_lt (a := 0) (b := D) (by omega) (by omega)), jin_nI (by omega) (by omega), nI_c (by omega), cond_true, cond_true, jif_t (Or.inr rfl), jif_t (Or.inr rfl), hX, hY, nx_or, wd_or hx hy, show (1 : Int32) = nI 1 from rfl, zi_sub (by omega)]
theorem c_bar {S : pS} {I : Nat → Nat → Int32} (h : cPS S I) (hB : pB S) (hp : S.2.1 = none) (hd : S.1 < 121) : ∃ I', cPf I I' ∧ ∃ S', act S 124 = some S' ∧ cPS S' I' ∧ jval d 53 116 [.ref 30, jjunk] [] (jGs L g, I, J) = some (some (.int (nI 1)), (jGs L g, I', J)) := by
  obtain ⟨D, p, X, Y, n, bh, ol⟩ := S
  have hp' : p = none := hp
  subst hp'
  obtain ⟨h1, h2, h3, h4, h5, h6⟩ := h
  have hd' : D < 121 := hd
  have h1' : I 30 2 = nI D := h1
  have hx : tB 10 (X D) := tB_10 (hB.2.1 D).1 hB.1
  have hy : tB 10 (Y D) := tB_10 (hB.2.1 D).2 hB.1
  have hXY := h3 D (Nat.le_refl _)
  have hX : I 31 D = nI (wd (X D)) := hXY.1
  have hY : I 32 D = nI (wd (Y D)) := hXY.2
  refine ⟨ju (ju I 31 D (nI (wd (orT (X D) (Y D))))) 32 D (nI 1048576), fun y a b c d e => by rw [ju_n c, ju_n b], _, rfl, ⟨?_, ?_, fun k hk => ?_, ?_, fun x hx => ?_, fun l hl => ?_⟩, ?_⟩
  · show ju _ 32 D _ 30 2 = nI D
    rw [zu_a (by omega), zu_a (by omega)]; exact h1
  · show ju _ 32 D _ 30 4 = nI 0
    rw [zu_a (by omega), zu_a (by omega)]; exact h2
  · have hk' : k ≤ D := hk
    show ju _ 32 D _ 31 k = nI (wd (jup X D (orT (X D) (Y D)) k)) ∧ ju _ 32 D _ 32 k = nI (wd (jup Y D tEm k))
    by_cases hkD : k = D
    · rw [hkD, jup_s, jup_s, zu_at, zu_a (by omega), zu_at]
      exact ⟨rfl, rfl⟩
    · rw [jup_n hkD, jup_n hkD, zu_a (by omega), zu_k hkD, zu_k hkD, zu_a (by omega)]
      exact h3 k hk'
  · show ju _ 32 D _ 30 5 = nI n
    rw [zu_a (by omega), zu_a (by omega)]; exact h4
  · rw [zu_a (by omega), zu_a (by omega)]; exact h5 x hx
  · rw [zu_a (by omega), zu_a (by omega)]; exact h6 l hl
  · rw [e_PatternReader_take_116, h1', jin_nI (by omega) (by omega), nI_c (by omega), cond_true, cond_true, cond_true, cond_true, jif_t (Or.inr rfl), hX, hY, nx_or, wd_or hx hy]
    rfl
theorem c_repeat {S : pS} {I : Nat → Nat → Int32} {c : Nat} (hc : c = 42 ∨ c = 63) (h : cPS S I) (hB : pB S) (hd : S.1 < 121) : ∃ I', cPf I I' ∧ ((∃ S', tk S c = some S' ∧ cPS S' I' ∧ jcall (d + 3) 54 [.ref 30, .int (bI (decide (c = 42)))] (jGs L g, I, J) = some (some (.int (nI 1)), (jGs L g, I', J))) ∨ (tk S c = none ∧ jcall (d + 3) 54 [.ref 30, .int (bI (decide (c = 42)))] (jGs L g, I, J) = some (some (.int (nI 0)), (jGs L g, I', J)))) := by
  obtain ⟨D, p, X, Y, n, bh, ol⟩ := S
  obtain ⟨h1, h2, h3, h4, h5, h6⟩ := h
  cases p with
  | none =>
    refine ⟨I, fun _ _ _ _ _ _ => rfl, Or.inr ⟨by unfold tk; rw [if_pos hc]; rfl, ?_⟩⟩
    rw [c_PatternReader_repeat, e_PatternReader_repeat_0, jif_t (show I 30 4 = 0 from h2), jif_t (Or.inl rfl)]
    rfl
  | some f =>
    have hf : tB 10 f := tB_10 (hB.2.2.1 f rfl) hB.1
    have hw : I 30 3 = nI (wd f) := h2.2
    have hltf := wd_lt hf
    have e1 : jsru (nI (wd f)) (10 : Int32) &&& (1023 : Int32) = nI f.2.2 := by
      rw [show (10 : Int32) = nI 10 from rfl, zi_sru (by omega) (by omega), show (1023 : Int32) = nI 1023 from rfl, nx_and, wd_l hf]
    have e2 : nI (wd f) &&& (1023 : Int32) = nI f.2.1 := by rw [show (1023 : Int32) = nI 1023 from rfl, nx_and, wd_f hf]
    have fin : ∀ bh' I1, (∀ y, y ≠ 33 → I1 y = I y) → (∀ x, x < 10 → I1 33 x = nI (bh' x)) → ∃ I', cPf I1 I' ∧ cPS (stl (D, some (true, f.2.1, f.2.2), X, Y, n, bh', ol)) I' ∧ jval (d + 2) 54 36 [.ref 30, jjunk] [] (jGs L g, I1, J) = some (some (.int (nI 1)), (jGs L g, I', J)) := by
      intro bh' I1 F hb
      have g3 : I1 30 3 = nI (wd f) := by rw [F 30 (by omega)]; exact hw
      obtain ⟨I', a1, a2, a3⟩ := c_settle d L g (J := J) (S := (D, some (true, f.2.1, f.2.2), X, Y, n, bh', ol)) (I := ju I1 30 3 (nI (wd (true, f.2.1, f.2.2)))) ⟨by rw [zu_k (by omega), F 30 (by omega)]; exact h1, ⟨by rw [zu_k (by omega), F 30 (by omega)]; exact h2.1, zu_at _ _ _ _⟩, fun k hk => by rw [zu_a (by omega), zu_a (by omega), F 31 (by omega), F 32 (by omega)]; exact h3 k hk, by rw [zu_k (by omega), F 30 (by omega)]; exact h4, fun x hx => by rw [zu_a (by omega)]; exact hb x hx, fun l hl => by rw [zu_a (by omega), F 34 (by omega)]; exact h6 l hl⟩ ⟨hB.1, hB.2.1, fun f' e => by cases e; exact hB.2.2.1 f rfl, hB.2.2.2⟩ hd
      refine ⟨I', fun y a b c d e => by rw [a1 y a b c d e, ju_n a], a2, ?_⟩
      rw [e_PatternReader_repeat_36, g3, show (1048576 : Int32) = nI 1048576 from rfl, nx_or, wd_setE hf, a3, jcV_some, e_PatternReader_repeat_51, jif_t (Or.inr rfl)]
      rfl
    have htk : tk (D, some f, X, Y, n, bh, ol) c = some (stl (D, some (true, f.2.1, f.2.2), X, Y, n, (if c = 42 then flw bh f.2.2 f.2.1 else bh), ol)) := by
      unfold tk
      rw [if_pos hc]
      rfl
    rw [htk]
    have n4 : ¬ I 30 4 = 0 := by rw [h2.1]; decide
    by_cases h42 : c = 42
    · obtain ⟨I1, q1, q2, q3⟩ := c_follow (d + 1) L g (J := J) (la := f.2.2) (fi := f.2.1) (bh := bh) (I := I) hf.2 (fun x hx => h5 x hx)
      obtain ⟨I', a1, a2, a3⟩ := fin _ I1 q1 q2
      refine ⟨I', fun y a b c d e => by rw [a1 y a b c d e, q1 y d], Or.inl ⟨_, rfl, by rw [if_pos h42]; exact a2, ?_⟩⟩
      rw [c_PatternReader_repeat, e_PatternReader_repeat_0, jif_f n4, decide_eq_true h42, jif_f (by decide), hw, e1, e2, q3, jcV_some]
      exact a3
    · obtain ⟨I', a1, a2, a3⟩ := fin bh I (fun _ _ => rfl) (fun x hx => h5 x hx)
      refine ⟨I', a1, Or.inl ⟨_, rfl, by rw [if_neg h42]; exact a2, ?_⟩⟩
      rw [c_PatternReader_repeat, e_PatternReader_repeat_0, jif_f n4, decide_eq_false h42, jif_t (by decide)]
      exact a3
end CC

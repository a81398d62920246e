/-! THE CLASS: the language of a pattern is made -/
set_option maxRecDepth 100000
def fQt (n fi : Nat) (bh ol : Nat → Nat) (q0 l0 : Nat) (q l : Nat) : Nat := if q < q0 ∨ (q = q0 ∧ l < l0) then fQ n fi bh ol q l else 0
theorem fQt_lt {n fi : Nat} {bh ol : Nat → Nat} (hn : n ≤ 10) (ho : ∀ l, ol l < 2 ^ n) (q0 l0 q l : Nat) : fQt n fi bh ol q0 l0 q l < 1048576 := by
  unfold fQt
  split
  · exact fQ_lt hn ho q l
  · omega
section CC
variable (d L : Nat) (g : jG)
theorem c_as_3 {I : Nat → Nat → Int32} {n fi q b : Nat} {bh ol : Nat → Nat} (hn : n ≤ 10) (ho : ∀ l, ol l < 2 ^ n) (hI : ∀ l, l < 3 → I 34 l = nI (ol l)) (hq : q < n + 1) (hb : b = if q < n then bh q else fi) : ∀ m l (J : Nat → Nat → Int64), l + m = 3 → mkU I J (n + 1) (n + 1) 0 (fQt n fi bh ol q l) → ∃ J', (∀ y, y ≠ 20 → J' y = J y) ∧ mkU I J' (n + 1) (n + 1) 0 (fQt n fi bh ol (q + 1) 0) ∧ jval (d + 1) 52 3 [.ref 30, .ref 19, .int (nI q), .int (nI b), .int (nI l)] [] (jGs L g, I, J) = some (none, (jGs L g, I, J')) := by
  intro m
  induction m with
  | zero =>
    intro l J hl hU
    have : l = 3 := by omega
    subst this
    refine ⟨J, fun _ _ => rfl, mkU_cg hU (fun q' _ l' hl' => ?_) (fQt_lt hn ho _ _), ?_⟩
    · unfold fQt
      by_cases h : q' ≤ q
      · rw [if_pos (by omega), if_pos (by omega)]
      · rw [if_neg (by omega), if_neg (by omega)]
    · rw [e_PatternReader_addSteps_3, jif_t (by decide)]
  | succ m ih =>
    intro l J hl hU
    have hl3 : l < 3 := by omega
    have hlt : b &&& ol l < 1048576 := by
      have h1 : 2 ^ n ≤ 2 ^ 10 := Nat.pow_le_pow_right (by omega) hn
      have h2 := ho l
      have h3 : b &&& ol l ≤ ol l := Nat.and_le_right
      omega
    obtain ⟨s1, s2⟩ := c_addStepU d L g hU hq hl3 hlt
    obtain ⟨J', q1, q2, q3⟩ := ih (l + 1) _ (by omega) (mkU_cg s1 (fun q' _ l' _ => by
      by_cases hqq : q' = q
      · subst hqq
        rw [jup_s]
        by_cases hll : l' = l
        · subst hll
          rw [jup_s]
          unfold fQt
          rw [if_pos (by omega), if_neg (by omega), Nat.zero_or, fQ, hb]
        · rw [jup_n hll]
          unfold fQt
          by_cases h : l' < l
          · rw [if_pos (by omega), if_pos (by omega)]
          · rw [if_neg (by omega), if_neg (by omega)]
      · rw [jup_n hqq]
        unfold fQt
        by_cases h : q' < q
        · rw [if_pos (by omega), if_pos (by omega)]
        · rw [if_neg (by omega), if_neg (by omega)]) (fQt_lt hn ho _ _))
    refine ⟨J', fun y hy => (q1 y hy).trans (ju_n hy), q2, ?_⟩
    rw [e_PatternReader_addSteps_3, jif_f (show ¬ (3 : Int32) ≤ nI l from nI_ge (a := l) (b := 3) hl3 (by omega)), jin_nI (by omega) (by omega), nI_c (by omega), cond_true, hI l hl3, nx_and, s2, jcV_some, e_PatternReader_addSteps_25, nI_1]
    exact q3
theorem c_addSteps {I : Nat → Nat → Int32} {J : Nat → Nat → Int64} {n fi q b : Nat} {bh ol : Nat → Nat} (hn : n ≤ 10) (ho : ∀ l, ol l < 2 ^ n) (hI : ∀ l, l < 3 → I 34 l = nI (ol l)) (hq : q < n + 1) (hb : b = if q < n then bh q else fi) (hU : mkU I J (n + 1) (n + 1) 0 (fQt n fi bh ol q 0)) : ∃ J', (∀ y, y ≠ 20 → J' y = J y) ∧ mkU I J' (n + 1) (n + 1) 0 (fQt n fi bh ol (q + 1) 0) ∧ jcall (d + 2) 52 [.ref 30, .ref 19, .int (nI q), .int (nI b)] (jGs L g, I, J) = some (none, (jGs L g, I, J')) := by
  obtain ⟨J', q1, q2, q3⟩ := c_as_3 d L g hn ho hI hq hb 3 0 J (by omega) hU
  refine ⟨J', q1, q2, ?_⟩
  rw [c_PatternReader_addSteps, e_PatternReader_addSteps_0]
  exact q3
theorem c_mk_33 {I : Nat → Nat → Int32} {n fi out : Nat} {bh ol : Nat → Nat} {x3 x4 : Int32} (hn : n ≤ 10) (ho : ∀ l, ol l < 2 ^ n) (hI : ∀ l, l < 3 → I 34 l = nI (ol l)) (h5 : I 30 5 = nI n) (h33 : ∀ p, p < 10 → I 33 p = nI (bh p)) : ∀ m q (J : Nat → Nat → Int64), q + m = n → mkU I J (n + 1) (n + 1) 0 (fQt n fi bh ol q 0) → ∃ J', (∀ y, y ≠ 20 → J' y = J y) ∧ mkU I J' (n + 1) (n + 1) 0 (fQt n fi bh ol n 0) ∧ jval (d + 2) 51 33 [.ref 30, .ref 19, .ref out, .int x3, .int x4, .int (nI q)] [] (jGs L g, I, J) = jval (d + 2) 51 69 [.ref 30, .ref 19, .ref out, .int x3, .int x4, jjunk] [] (jGs L g, I, J') := by
  intro m
  induction m with
  | zero =>
    intro q J hq hU
    have : q = n := by omega
    subst this
    refine ⟨J, fun _ _ => rfl, hU, ?_⟩
    rw [e_PatternReader_make_33, h5, jif_t (nI_le (Nat.le_refl _) (by omega))]
  | succ m ih =>
    intro q J hq hU
    obtain ⟨J1, a1, a2, a3⟩ := c_addSteps d L g (b := bh q) hn ho hI (show q < n + 1 by omega) (by rw [if_pos (by omega)]) hU
    obtain ⟨J', q1, q2, q3⟩ := ih (q + 1) J1 (by omega) a2
    refine ⟨J', fun y hy => (q1 y hy).trans (a1 y hy), q2, ?_⟩
    rw [← q3, e_PatternReader_make_33, h5, jif_f (nI_ge (by omega) (by omega)), jif_f (show ¬ (10 : Int32) ≤ nI q from nI_ge (a := q) (b := 10) (by omega) (by omega)), jin_nI (by omega) (by omega), nI_c (by omega), cond_true, h33 q (by omega), a3, jcV_some, e_PatternReader_make_63, nI_1]
theorem c_make {S : pS} {I : Nat → Nat → Int32} {J : Nat → Nat → Int64} {PC PQ out : Nat} (hI : mkI L g I PC PQ) (hB : pB S) (h : cPS S I) (ho : gK L g out = 2) (hoC : out ≤ g.2.2.2.1) : ∃ g' I' J', mkI L g' I' PC PQ ∧ fX L g g' I I' J J' out ∧ cR L g' I' J' out (vP6 S) ∧ jcall (d + 3) 51 [.ref 30, .ref 19, .ref out] (jGs L g, I, J) = some (none, (jGs L g', I', J')) := by
  obtain ⟨D, p, X, Y, n, bh, ol⟩ := S
  obtain ⟨h1, h2, h3, h4, h5, h6⟩ := h
  have hn : n ≤ 10 := hB.1
  have hol : ∀ l, ol l < 2 ^ n := hB.2.2.2
  have hor : tB n (orT (X 0) (Y 0)) := tB_or (hB.2.1 0).1 (hB.2.1 0).2
  have hor10 := tB_10 hor hn
  have hX : I 31 0 = nI (wd (X 0)) := (h3 0 (Nat.zero_le _)).1
  have hY : I 32 0 = nI (wd (Y 0)) := (h3 0 (Nat.zero_le _)).2
  have h30 : I 30 5 = nI n := h4
  have hw : nI (wd (X 0)) ||| nI (wd (Y 0)) = nI (wd (orT (X 0) (Y 0))) := by rw [nx_or, wd_or (tB_10 (hB.2.1 0).1 hn) (tB_10 (hB.2.1 0).2 hn)]
  generalize ht : orT (X 0) (Y 0) = t at hor hor10 hw
  have hv : vP6 (D, p, X, Y, n, bh, ol) = vPat bh ol t.2.1 t.2.2 t.1 := by rw [← ht]; rfl
  have k3 : (jGs L g).1 out = 2 := ho
  obtain ⟨J0, z1, z2, z3⟩ := c_begin (d + 1) L g (I := I) (J := J) (n := n + 1) (by omega)
  generalize hI1 : ju (ju (ju I 19 4 (nI (n + 1))) 19 5 (nI (n + 1))) 19 6 (nI 0) = I1 at z2 z3
  have F : ∀ y, y ≠ 19 → I1 y = I y := fun y hy => by rw [← hI1, ju_n hy, ju_n hy, ju_n hy]
  have F7 : I1 19 7 = I 19 7 := by rw [← hI1, zu_k (by omega), zu_k (by omega), zu_k (by omega)]
  have F12 : I1 19 12 = I 19 12 := by rw [← hI1, zu_k (by omega), zu_k (by omega), zu_k (by omega)]
  have i34 : ∀ l, l < 3 → I1 34 l = nI (ol l) := fun l hl => by rw [F 34 (by omega)]; exact h6 l hl
  obtain ⟨J1, a1, a2, a3⟩ := c_mk_33 d L g (fi := t.2.1) (out := out) (x3 := nI (wd t)) (x4 := nI n) hn hol i34 (by rw [F 30 (by omega)]; exact h30) (fun p hp => by rw [F 33 (by omega)]; exact h5 p hp) n 0 J0 (by omega) (mkU_cg z2 (fun q _ l _ => by unfold fQt; rw [if_neg (by omega)]) (fQt_lt hn hol _ _))
  obtain ⟨J2, b1, b2, b3⟩ := c_addSteps d L g (b := t.2.1) hn hol i34 (show n < n + 1 by omega) (by rw [if_neg (Nat.lt_irrefl _)]) a2
  have hU := mkU_cg b2 (F' := fQ n t.2.1 bh ol) (fun q hq l _ => by unfold fQt; rw [if_pos (by omega)]) (fQ_lt hn hol)
  obtain ⟨J3, s1, s2, s3⟩ := c_signU d L g hU (eQ_lt (em := t.1) hn hor.2)
  have hI1' : mkI L g I1 PC PQ := mkI_cg hI F7 F12 F
  obtain ⟨g', I', J', f1, f2, f3⟩ := c_finU d L hI1' s2 (fQ_lt hn hol) (sim_Q (fi := t.2.1) (bh := bh) (em := t.1) hn hol hor.2) ho hoC
  have hf : fX L g g' I I' J J' out := fX_trans (fG_X (fG_same (fun x hx => by
    obtain ⟨x1, x2, x3, x4, x5⟩ := mkO_20 hx
    exact ⟨F x x1, by rw [s1 x x3 x4 x5, b1 x x2, a1 x x2]; exact z1 x x2⟩))) f2
  have hlt := wd_lt hor10
  have e1 : jsru (nI (wd t)) (10 : Int32) &&& (1023 : Int32) = nI t.2.2 := by
    rw [show (10 : Int32) = nI 10 from rfl, zi_sru (by omega) (by omega), show (1023 : Int32) = nI 1023 from rfl, nx_and, wd_l hor10]
  have e2 : nI (wd t) &&& (1023 : Int32) = nI t.2.1 := by rw [show (1023 : Int32) = nI 1023 from rfl, nx_and, wd_f hor10]
  have e3 : nI (wd t) &&& (1048576 : Int32) = nI (if t.1 then 1048576 else 0) := by rw [show (1048576 : Int32) = nI 1048576 from rfl, nx_and, wd_e hor10]
  have eO : (1 : Int32) <<< (nI n &&& 31) = nI (2 ^ n) := nI_pow _ (by omega)
  have e81 : jval (d + 2) 51 81 [jjunk, .ref 19, .ref out, .int (nI (wd t)), .int (nI n), jjunk] [] (jGs L g, I1, J2) = jval (d + 2) 51 111 [jjunk, .ref 19, .ref out, jjunk, .int (nI n), jjunk] [.int (nI (eQ n t.2.2 t.1)), .ref 19] (jGs L g, I1, J2) := by
    rw [e_PatternReader_make_81, e1, e3, eO, eQ]
    by_cases ht1 : t.1 = true
    · rw [if_pos ht1, if_pos ht1, jif_f (by decide), nx_or]
    · rw [if_neg ht1, if_neg ht1, jif_t (by decide), Nat.or_zero]
  have e47 : jcall (d + 3) 51 [.ref 30, .ref 19, .ref out] (jGs L g, I, J) = jcI (jcall (d + 2) 42 [.ref 19, .int (nI (phQ n 1024)), .ref out] (jGs L g, I1, J3)) (fun r2 S1 => jval (d + 2) 51 123 [jjunk, jjunk, .ref out, jjunk, jjunk, jjunk] [.int r2] S1) := by
    rw [c_PatternReader_make, e_PatternReader_make_0, show (0 : Int32) = nI 0 from rfl, jin_nI (by omega) (by omega), nI_c (by omega), cond_true, cond_true, h30, nI_1, z3, jcV_some, hX, hY, hw, e_PatternReader_make_30, show (0 : Int32) = nI 0 from rfl, a3, e_PatternReader_make_69, e2, b3, jcV_some, e81, e_PatternReader_make_111, s3, jcV_some, e_PatternReader_make_114, eO]
    rfl
  rw [e47, hv]
  have ho' : gK L g' out = 2 := by rw [(hf.2.1 out hoC).1]; exact ho
  have k3' : (jGs L g').1 out = 2 := ho'
  rcases f3 with ⟨V, v1, v2, v3⟩ | ⟨v1, v2, v3, v4⟩
  · refine ⟨g', I', J', f1, hf, ?_, ?_⟩
    · unfold vPat; rw [v1, Option.getD_some]; exact v2
    · rw [v3, jcI_some, e_PatternReader_make_123, jif_f (by decide), e_PatternReader_make_130]
  · obtain ⟨I2, J4, q1, q2, q3⟩ := c_makeAll (d + 1) L g' (I := I') (J := J') ho'
    refine ⟨g', I2, J4, mkI_out L g' f1 ho' (fun x hx => (q1 x hx).1), fX_trans hf (fX_one q1), ?_, ?_⟩
    · unfold vPat; rw [v1]; exact q2
    · rw [v4, jcI_some, e_PatternReader_make_123, jif_t (by decide), if_pos k3', q3, jcV_some, e_PatternReader_make_130]
end CC

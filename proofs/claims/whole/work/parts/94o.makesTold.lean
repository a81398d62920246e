/-! THE REFERENCE: makesTold -/
set_option maxRecDepth 100000
section MM
variable (d L : Nat) (g : jG) {J : Nat → Nat → Int64}
theorem r_mt_95f {c : Nat → Nat} {N p s pm a t : Nat} {x1 x2 : Int32} {I : Nat → Nat → Int32} (h : lR c N p true I) (hz : zC s pm a t I) : ∃ I', fQ0 I I' ∧ lR c N p true I' ∧ zC s pm a t I' ∧ jval (d + 1) 205 95 [.ref 117, .int x1, .int x2, .int (nI 1), jjunk] [] (jGs L g, I, J) = jval (d + 1) 205 104 [.ref 117, .int x1, .int x2, jjunk, jjunk] [.int (nI 0)] (jGs L g, I', J) := by
  obtain ⟨I1, b1, b2, b3⟩ := r_takes_f d L g (J := J) (x := 59) h
  refine ⟨I1, fQ0_e b1, b2, zC_e hz b1, ?_⟩
  rw [e_TextValuesModel_makesTold_95, e_TextValuesModel_makesTold_7, jif_f (by decide), h.2, jif_f (by decide), e_TextValuesModel_makesTold_98, b3, jcI_some]
theorem r_mt_7 {c : Nat → Nat} {N fr : Nat} {x1 : Int32} (hN : N ≤ 120) (hc : ∀ i, i < N → c i < 128) : ∀ f i (q : Nat → Nat → Nat) (I : Nat → Nat → Int32), N - i < f → i ≤ N → lR c N i false I → rQ q I → q 117 48 < i → q 117 44 < i → fr < 120 → (∃ i' q' I', pPts c N fr f i q = (true, i', q') ∧ fQ0 I I' ∧ lR c N i' false I' ∧ rQ q' I' ∧ i < i' ∧ i' ≤ N ∧ q' 117 48 < i' ∧ q' 117 44 < i' ∧ (∀ a k, a ≠ 38 → a ≠ 35 → a ≠ 120 → ¬ (144 ≤ a ∧ a ≤ 146) → ¬ (a = 117 ∧ (k = 48 ∨ k = 44)) → q' a k = q a k) ∧ jval (d + 4) 205 7 [.ref 117, .int x1, .int (nI fr), .int (nI 1), jjunk] [] (jGs L g, I, J) = jval (d + 4) 205 104 [.ref 117, .int x1, .int (nI fr), jjunk, jjunk] [.int (nI 1)] (jGs L g, I', J)) ∨ (∃ p q' I' pm t, pPts c N fr f i q = (false, p, q') ∧ fQ0 I I' ∧ lR c N p true I' ∧ p ≤ N ∧ pm ≤ 120 ∧ zC (q 117 35) pm (q 117 42) t I' ∧ jval (d + 4) 205 7 [.ref 117, .int x1, .int (nI fr), .int (nI 1), jjunk] [] (jGs L g, I, J) = jval (d + 4) 205 104 [.ref 117, .int x1, .int (nI fr), jjunk, jjunk] [.int (nI 0)] (jGs L g, I', J)) := by
  intro f
  induction f with
  | zero => intro i q I hf; omega
  | succ f ih =>
    intro i q I hf hi h hq ht h44 hfr
    obtain ⟨hs1, hs2⟩ := pSk_le (c := c) hi
    obtain ⟨k1, k2⟩ := pSk_pSk c N i hi
    obtain ⟨I1, a1, a2, a3⟩ := r_hereL (d + 3) L g (J := J) hN hc hi h
    have hq1 := rQ_e hq a1
    have hz1 := rQ_z hq1
    have hpl : pPts c N fr (f + 1) i q = if pCh c N i = 39 then (match pLet c N (N + 1) (pSk c N i + 1) (qCode q 39) with
        | (true, i', q') => pPts c N fr f i' (qPart q' 1 (q 117 48) (q' 117 48 - q 117 48))
        | (false, p, q') => (false, p, q'))
      else if 48 ≤ pCh c N i ∧ pCh c N i ≤ 51 then pPts c N fr f (pSk c N i + 1) (qCode (qPart q 2 (pCh c N i - 48) 0) (pCh c N i))
      else if pCh c N i = 59 ∧ fr < q 117 44 then (true, pSk c N i + 1, qCode q 59)
      else match vO (pCh c N i) with
        | some v => pPts c N fr f (pSk c N i + 1) (qCode (qPart q 0 v 0) (pCh c N i))
        | none => (false, pSk c N i, q) := rfl
    rw [hpl]
    have e7 : jval (d + 4) 205 7 [.ref 117, .int x1, .int (nI fr), .int (nI 1), jjunk] [] (jGs L g, I, J) = jval (d + 4) 205 22 [.ref 117, .int x1, .int (nI fr), .int (nI 1), jjunk] [.int (hV c N (pSk c N i))] (jGs L g, I1, J) := by
      rw [e_TextValuesModel_makesTold_7, jif_f (by decide), h.2, jif_t (by decide), a3, jcI_some]
    rw [e7, e_TextValuesModel_makesTold_22]
    have qp44 : ∀ q0 s a b, qPart q0 s a b 117 44 = q0 117 44 + 1 := fun q0 s a b => by unfold qPart; rw [zu_at]
    have qpr : ∀ q0 s a b a' k, ¬ (144 ≤ a' ∧ a' ≤ 146) → ¬ (a' = 117 ∧ k = 44) → qPart q0 s a b a' k = q0 a' k := fun q0 s a b a' k y1 y2 => by unfold qPart; rw [ju_ne (by omega), ju_ne (by omega), ju_ne (by omega), ju_ne (by omega)]
    by_cases h39 : pCh c N i = 39
    · rw [if_pos h39, jif_t (by rw [show (39 : Int32) = nI 39 from rfl, hV_pCh hc (by omega)]; exact h39)]
      rcases r_quoted d L g (J := J) hN hc hs2 a2 hq1 (k2.trans h39) (by omega) (by omega) with ⟨i', q', I', z1, z2, z3, z4, z5, z6, z7, z8, z9⟩ | ⟨p, q', I', t, z1, z2, z3, z4, z5, z6⟩
      · rw [k1] at z1
        rw [z1, z9, jcV_some, e_TextValuesModel_makesTold_35, e_TextValuesModel_makesTold_95]
        show (∃ i'' q'' I'', pPts c N fr f i' (qPart q' 1 (q 117 48) (q' 117 48 - q 117 48)) = (true, i'', q'') ∧ _) ∨ (∃ p q'' I'' pm t, pPts c N fr f i' (qPart q' 1 (q 117 48) (q' 117 48 - q 117 48)) = (false, p, q'') ∧ _)
        have g44 : q' 117 44 = q 117 44 := z8 _ _ (by omega) (by omega) (by omega) (by omega)
        have er : ∀ a k, a ≠ 38 → a ≠ 35 → a ≠ 120 → ¬ (144 ≤ a ∧ a ≤ 146) → ¬ (a = 117 ∧ (k = 48 ∨ k = 44)) → qPart q' 1 (q 117 48) (q' 117 48 - q 117 48) a k = q a k := fun a k y1 y2 y3 y4 y5 => by rw [qpr _ _ _ _ _ _ y4 (by omega)]; exact z8 a k y1 y2 y3 (by omega)
        rcases ih i' _ I' (by omega) z6 z3 z4 (by rw [qpr _ _ _ _ _ _ (by omega) (by omega)]; exact z7) (by rw [qp44]; omega) hfr with ⟨i2, q2, I2, w1, w2, w3, w4, w5, w6, w7, w8, w9, w10⟩ | ⟨p, q2, I2, pm, t, w1, w2, w3, w4, w5, w6, w7⟩
        · exact Or.inl ⟨i2, q2, I2, w1, fQ0_t (fQ0_t (fQ0_e a1) z2) w2, w3, w4, by omega, w6, w7, w8, fun a k y1 y2 y3 y4 y5 => (w9 a k y1 y2 y3 y4 y5).trans (er a k y1 y2 y3 y4 y5), w10⟩
        · rw [er _ _ (by omega) (by omega) (by omega) (by omega) (by omega), er _ _ (by omega) (by omega) (by omega) (by omega) (by omega)] at w6
          exact Or.inr ⟨p, q2, I2, pm, t, w1, fQ0_t (fQ0_t (fQ0_e a1) z2) w2, w3, w4, w5, w6, w7⟩
      · rw [k1] at z1
        obtain ⟨I2, b1, b2, b3, b4⟩ := r_mt_95f (d + 3) L g (J := J) (x1 := x1) (x2 := nI fr) z3 z5
        rw [z1, z6, jcV_some, e_TextValuesModel_makesTold_35]
        exact Or.inr ⟨p, q', I2, q 117 44 + 1, t, rfl, fQ0_t (fQ0_t (fQ0_e a1) z2) b1, b2, z4, by omega, b3, b4⟩
    · rw [if_neg h39, jif_f (by rw [show (39 : Int32) = nI 39 from rfl, hV_pCh hc (by omega)]; exact h39)]
      -- a part that is one sign
      have one : ∀ (s v : Nat) (hs : s = 0 ∨ s = 1) (I2 : Nat → Nat → Int32), eL I I2 → lR c N (pSk c N i + 1) false I2 → pSk c N i < N → (∃ i' q' I', pPts c N fr f (pSk c N i + 1) (qCode (qPart q (2 * s) v 0) (pCh c N i)) = (true, i', q') ∧ fQ0 I I' ∧ lR c N i' false I' ∧ rQ q' I' ∧ i < i' ∧ i' ≤ N ∧ q' 117 48 < i' ∧ q' 117 44 < i' ∧ (∀ a k, a ≠ 38 → a ≠ 35 → a ≠ 120 → ¬ (144 ≤ a ∧ a ≤ 146) → ¬ (a = 117 ∧ (k = 48 ∨ k = 44)) → q' a k = q a k) ∧ jval (d + 4) 205 7 [.ref 117, .int x1, .int (nI fr), .int (nI 1), jjunk] [] (jGs L g, ju (ju (ju (ju I2 144 (q 117 44) (nI (2 * s))) 145 (q 117 44) (nI v)) 146 (q 117 44) (nI 0)) 117 44 (nI (q 117 44 + 1)), J) = jval (d + 4) 205 104 [.ref 117, .int x1, .int (nI fr), jjunk, jjunk] [.int (nI 1)] (jGs L g, I', J)) ∨ (∃ p q' I' pm t, pPts c N fr f (pSk c N i + 1) (qCode (qPart q (2 * s) v 0) (pCh c N i)) = (false, p, q') ∧ fQ0 I I' ∧ lR c N p true I' ∧ p ≤ N ∧ pm ≤ 120 ∧ zC (q 117 35) pm (q 117 42) t I' ∧ jval (d + 4) 205 7 [.ref 117, .int x1, .int (nI fr), .int (nI 1), jjunk] [] (jGs L g, ju (ju (ju (ju I2 144 (q 117 44) (nI (2 * s))) 145 (q 117 44) (nI v)) 146 (q 117 44) (nI 0)) 117 44 (nI (q 117 44 + 1)), J) = jval (d + 4) 205 104 [.ref 117, .int x1, .int (nI fr), jjunk, jjunk] [.int (nI 0)] (jGs L g, I', J)) := by
        intro s v hs I2 y1 y2 y3
        have hq3 := rQ_code (x := pCh c N i) (rQ_part (s := 2 * s) (a := v) (b := 0) (rQ_e hq y1))
        have hl3 : lR c N (pSk c N i + 1) false (ju (ju (ju (ju I2 144 (q 117 44) (nI (2 * s))) 145 (q 117 44) (nI v)) 146 (q 117 44) (nI 0)) 117 44 (nI (q 117 44 + 1))) := lR_p y2 (fun a k hak => by rw [ju_ne (by omega), ju_ne (by omega), ju_ne (by omega), ju_ne (by omega)])
        have f3 : fQ0 I (ju (ju (ju (ju I2 144 (q 117 44) (nI (2 * s))) 145 (q 117 44) (nI v)) 146 (q 117 44) (nI 0)) 117 44 (nI (q 117 44 + 1))) := fQ0_t (fQ0_e y1) (fun a k hx => by unfold qX at hx; rw [ju_ne (by omega), ju_ne (by omega), ju_ne (by omega), ju_ne (by omega)])
        have er : ∀ a k, a ≠ 38 → a ≠ 35 → a ≠ 120 → ¬ (144 ≤ a ∧ a ≤ 146) → ¬ (a = 117 ∧ (k = 48 ∨ k = 44)) → qCode (qPart q (2 * s) v 0) (pCh c N i) a k = q a k := fun a k y1 y2 y3 y4 y5 => by rw [qCode_r y1 y2, qpr _ _ _ _ _ _ y4 (by omega)]
        rcases ih (pSk c N i + 1) _ _ (by omega) (by omega) hl3 hq3 (by rw [qCode_r (by omega) (by omega), qpr _ _ _ _ _ _ (by omega) (by omega)]; omega) (by rw [qCode_r (by omega) (by omega), qp44]; omega) hfr with ⟨i2, q2, I3, w1, w2, w3, w4, w5, w6, w7, w8, w9, w10⟩ | ⟨p, q2, I3, pm, t, w1, w2, w3, w4, w5, w6, w7⟩
        · exact Or.inl ⟨i2, q2, I3, w1, fQ0_t f3 w2, w3, w4, by omega, w6, w7, w8, fun a k y1 y2 y3 y4 y5 => (w9 a k y1 y2 y3 y4 y5).trans (er a k y1 y2 y3 y4 y5), w10⟩
        · rw [er _ _ (by omega) (by omega) (by omega) (by omega) (by omega), er _ _ (by omega) (by omega) (by omega) (by omega) (by omega)] at w6
          exact Or.inr ⟨p, q2, I3, pm, t, w1, fQ0_t f3 w2, w3, w4, w5, w6, w7⟩
      -- a part that is none
      have bad : ∀ (x y : Int32) (I2 : Nat → Nat → Int32), eL I I2 → lR c N (pSk c N i) true I2 → ∃ I' t, fQ0 I I' ∧ lR c N (pSk c N i) true I' ∧ zC (q 117 35) (q 117 44 + 1) (q 117 42) t I' ∧ ∃ I3, jcall (d + 4) 203 [.ref 117, .int x, .int y, .int (0 : Int32)] (jGs L g, I2, J) = some (none, (jGs L g, I3, J)) ∧ jval (d + 4) 205 95 [.ref 117, .int x1, .int (nI fr), .int (nI 1), jjunk] [] (jGs L g, I3, J) = jval (d + 4) 205 104 [.ref 117, .int x1, .int (nI fr), jjunk, jjunk] [.int (nI 0)] (jGs L g, I', J) := by
        intro x y I2 y1 y2
        obtain ⟨I3, b1, b2, b3, b4⟩ := r_part_f (d + 3) L g (J := J) (x := x) (y := y) (z := 0) (zC_e (rQ_z hq) y1) (by omega)
        have hl3 : lR c N (pSk c N i) true I3 := lR_p y2 (fun a k hak => by
          rcases hak with e | ⟨e1, e2, e3⟩
          · exact b1 a k (by unfold qX; omega)
          · rw [e1]; exact b3 k (by omega))
        obtain ⟨I4, c1, c2, c3, c4⟩ := r_mt_95f (d + 3) L g (J := J) (x1 := x1) (x2 := nI fr) hl3 b2
        exact ⟨I4, _, fQ0_t (fQ0_t (fQ0_e y1) b1) c1, c2, c3, I3, b4, c4⟩
      -- a variable, or a fault
      have var : ¬ (48 ≤ pCh c N i ∧ pCh c N i ≤ 51) → ¬ (pCh c N i = 59 ∧ fr < q 117 44) → (∃ i' q' I', (match vO (pCh c N i) with
            | some v => pPts c N fr f (pSk c N i + 1) (qCode (qPart q 0 v 0) (pCh c N i))
            | none => (false, pSk c N i, q)) = (true, i', q') ∧ fQ0 I I' ∧ lR c N i' false I' ∧ rQ q' I' ∧ i < i' ∧ i' ≤ N ∧ q' 117 48 < i' ∧ q' 117 44 < i' ∧ (∀ a k, a ≠ 38 → a ≠ 35 → a ≠ 120 → ¬ (144 ≤ a ∧ a ≤ 146) → ¬ (a = 117 ∧ (k = 48 ∨ k = 44)) → q' a k = q a k) ∧ jval (d + 4) 205 84 [.ref 117, .int x1, .int (nI fr), .int (nI 1), jjunk] [] (jGs L g, I1, J) = jval (d + 4) 205 104 [.ref 117, .int x1, .int (nI fr), jjunk, jjunk] [.int (nI 1)] (jGs L g, I', J)) ∨ (∃ p q' I' pm t, (match vO (pCh c N i) with
            | some v => pPts c N fr f (pSk c N i + 1) (qCode (qPart q 0 v 0) (pCh c N i))
            | none => (false, pSk c N i, q)) = (false, p, q') ∧ fQ0 I I' ∧ lR c N p true I' ∧ p ≤ N ∧ pm ≤ 120 ∧ zC (q 117 35) pm (q 117 42) t I' ∧ jval (d + 4) 205 84 [.ref 117, .int x1, .int (nI fr), .int (nI 1), jjunk] [] (jGs L g, I1, J) = jval (d + 4) 205 104 [.ref 117, .int x1, .int (nI fr), jjunk, jjunk] [.int (nI 0)] (jGs L g, I', J)) := by
        intro _ _
        have hn0 : nO 0 (pCh c N i) = vO (pCh c N i) := rfl
        cases hv : vO (pCh c N i) with
        | none =>
          obtain ⟨I2, b1, b2, b3⟩ := r_number_n (d + 1) L g (J := J) (s := 0) hN hc hs2 (by omega) a2 (by rw [k2, hn0]; exact hv)
          rw [k1] at b2
          obtain ⟨I', t, c1, c2, c3, I3, c4, c5⟩ := bad 0 (-1) I2 (eL_t a1 b1) b2
          refine Or.inr ⟨_, _, I', _, t, rfl, c1, c2, hs2, by omega, c3, ?_⟩
          rw [e_TextValuesModel_makesTold_84, show (0 : Int32) = nI 0 from rfl, b3, jcI_some, e_TextValuesModel_makesTold_91]
          exact (congrArg (fun z => jcV z (fun S1 => jval (d + 4) 205 95 [.ref 117, .int x1, .int (nI fr), .int (nI 1), jjunk] [] S1)) c4).trans c5
        | some v =>
          have hx := (nO_lt (hn0.trans hv)).2
          have hlt := pCh_lt (c := c) (N := N) (i := i) (by omega)
          obtain ⟨I2, b1, b2, b3⟩ := r_number_t (d + 1) L g (J := J) (s := 0) hN hc hs2 (by omega) a2 (by rw [k2, hn0]; exact hv)
          rw [k1] at b2
          have := one 0 v (Or.inl rfl) I2 (eL_t a1 b1) b2 hlt
          rw [e_TextValuesModel_makesTold_84, show (0 : Int32) = nI 0 from rfl, b3, jcI_some, e_TextValuesModel_makesTold_91, show (0 : Int32) = nI 0 from rfl, r_part (d + 3) L g (rQ_e hq (eL_t a1 b1)) (by omega), jcV_some, e_TextValuesModel_makesTold_95]
          exact this
      rcases pCh_128 (c := c) (N := N) (i := i) hc with hx | hx
      · obtain ⟨hlt, hv⟩ := hV_some (c := c) (N := N) (i := i) (by omega)
        rw [hv, show (48 : Int32) = nI 48 from rfl, show (57 : Int32) = nI 57 from rfl, r_in (d + 3) L g (by omega) (by omega) (by omega), jcI_some, e_TextValuesModel_makesTold_47]
        by_cases hdg : 48 ≤ pCh c N i ∧ pCh c N i ≤ 57
        · rw [decide_eq_true hdg, jif_f (by decide), show (1 : Int32) = nI 1 from rfl]
          by_cases h51 : 48 ≤ pCh c N i ∧ pCh c N i ≤ 51
          · have hn1 : nO 1 (pCh c N i) = some (pCh c N i - 48) := by unfold nO; rw [if_neg (by omega), if_pos rfl, if_pos h51]
            obtain ⟨I2, b1, b2, b3⟩ := r_number_t (d + 1) L g (J := J) (s := 1) hN hc hs2 (by omega) a2 (by rw [k2]; exact hn1)
            rw [k1] at b2
            have := one 1 (pCh c N i - 48) (Or.inr rfl) I2 (eL_t a1 b1) b2 hlt
            rw [if_pos h51, b3, jcI_some, e_TextValuesModel_makesTold_57, show (2 : Int32) = nI 2 from rfl, show (0 : Int32) = nI 0 from rfl, r_part (d + 3) L g (rQ_e hq (eL_t a1 b1)) (by omega), jcV_some, e_TextValuesModel_makesTold_61, e_TextValuesModel_makesTold_95]
            exact this
          · have hn1 : nO 1 (pCh c N i) = none := by unfold nO; rw [if_neg (by omega), if_pos rfl, if_neg h51]
            have hvn : vO (pCh c N i) = none := by unfold vO; rw [if_neg (by omega), if_neg (by omega), if_neg (by omega), if_neg (by omega)]
            obtain ⟨I2, b1, b2, b3⟩ := r_number_n (d + 1) L g (J := J) (s := 1) hN hc hs2 (by omega) a2 (by rw [k2]; exact hn1)
            rw [k1] at b2
            obtain ⟨I', t, c1, c2, c3, I3, c4, c5⟩ := bad 2 (-1) I2 (eL_t a1 b1) b2
            rw [if_neg h51, if_neg (by omega), hvn, b3, jcI_some, e_TextValuesModel_makesTold_57, c4, jcV_some, e_TextValuesModel_makesTold_61]
            exact Or.inr ⟨_, _, I', _, t, rfl, c1, c2, hs2, by omega, c3, c5⟩
        · rw [decide_eq_false hdg, jif_t (by decide), if_neg (by omega)]
          by_cases h59 : pCh c N i = 59
          · rw [jif_t (by rw [h59]; rfl), hq1.1.2.2.2.1]
            by_cases hfq : fr < q 117 44
            · rw [if_pos ⟨h59, hfq⟩, jif_f (nI_ge hfq (by omega))]
              obtain ⟨I2, b1, b2, b3⟩ := r_takes_t (d + 2) L g (J := J) hN hc hs2 (show 59 < 128 by omega) a2 (k2.trans h59)
              rw [k1] at b2
              refine Or.inl ⟨_, _, I2, rfl, fQ0_e (eL_t a1 b1), b2, rQ_code (rQ_e hq (eL_t a1 b1)), by omega, by omega, by rw [qCode_r (by omega) (by omega)]; omega, by rw [qCode_r (by omega) (by omega)]; omega, fun a k y1 y2 _ _ _ => qCode_r y1 y2, ?_⟩
              rw [e_TextValuesModel_makesTold_95, e_TextValuesModel_makesTold_7, jif_t rfl, e_TextValuesModel_makesTold_98, show (59 : Int32) = nI 59 from rfl, b3, jcI_some]
            · rw [if_neg (by omega), jif_t (nI_le (by omega) (by omega))]
              exact var (by omega) (by omega)
          · rw [jif_f (show ¬ nI (pCh c N i) = (59 : Int32) from fun e => h59 ((nI_eq (b := 59) (by omega) (by omega)).mp e)), if_neg (by omega)]
            exact var (by omega) (by omega)
      · rw [hV_end hx hc, show (48 : Int32) = nI 48 from rfl, show (57 : Int32) = nI 57 from rfl, r_in_m (d + 3) L g (by omega), jcI_some, e_TextValuesModel_makesTold_47, jif_t (by decide), jif_f (by decide), if_neg (by omega), if_neg (by omega)]
        exact var (by omega) (by omega)
end MM

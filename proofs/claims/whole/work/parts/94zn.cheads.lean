/-! THE CLASS: an alarm; the head of braces; braces behind a fault -/
set_option maxRecDepth 100000
section MM
variable (d L : Nat) (g : jG)
theorem c_st_al {c : Nat → Nat} {N i : Nat} {x1 : Int32} {q : Nat → Nat → Nat} {I : Nat → Nat → Int32} {J : Nat → Nat → Int64} (hN : N ≤ 120) (hc : ∀ i, i < N → c i < 128) (hg : g.2.2.1 35 0 = some 2) (h168 : 170 ≤ g.2.2.2.1) (hC : g.2.2.2.1 + 1 ≤ 600000) (hQ : g.2.2.2.2 + 7 ≤ 7302250) (h : lG c N i I) (hq : cQ q I) (h8 : q 35 8 ≤ i) (h42 : q 117 42 ≤ i) (hx : pCh c N i = 33) : ∃ g' I' J', fN L g.2.2.2.1 0 g g' I I' J J' ∧ g'.2.2.2.1 = g.2.2.2.1 + 1 ∧ cSt c N (pAl c N (pSk c N i) (pSk c N i + 1) (qSt q)) I' ∧ gK L g' (g.2.2.2.1 + 1) = 4 ∧ (∀ k, g'.2.2.1 (g.2.2.2.1 + 1) k = none) ∧ g'.2.2.1 0 6 = g.2.2.1 0 6 ∧ ((pAl c N (pSk c N i) (pSk c N i + 1) (qSt q)).1 = true → nS (pAl c N (pSk c N i) (pSk c N i + 1) (qSt q)).2.2 I' (g.2.2.2.1 + 1) (q 117 35)) ∧ jcall (d + 6) 69 [.ref 35, .int x1] (jGs L g, I, J) = some (some (.ref (g.2.2.2.1 + 1)), (jGs L g', I', J')) := by
  obtain ⟨hs1, hs2⟩ := pSk_le (c := c) h.1
  have hlt := pCh_lt (c := c) (N := N) (i := i) (by omega)
  obtain ⟨g1, I2, J2, a1, a2, a3, a4, a5, a6, a7, a8, a9, a10⟩ := c_st_48 (d + 4) L g (J := J) (x1 := x1) hN hc hg h168 hC hQ h hq hx (by omega) rfl
  generalize hn : g.2.2.2.1 + 1 = n at *
  have hn9 : 171 ≤ n := by omega
  have e42 : qSt q 117 42 = q 117 42 := qSt_r (by omega)
  have e35 : qSt q 117 35 = q 117 35 := qSt_r (by omega)
  have e8 : qSt q 35 8 = q 35 8 := qSt_r (by omega)
  have b0 := c_noteAlarm (d + 4) L g1 (J := J2) (I := I2) (p := pSk c N i) hn9 a4 (a8.2.1.trans (by rw [e42])) a7.2.1.2.2 (by omega)
  -- the alarm is noted, its sign is read
  have l3 : ∀ a k, ¬ (a = n ∧ k = 3) → ¬ (a = 37 ∧ k = q 117 42) → ¬ (a = 35 ∧ (k = 6 ∨ k = 2)) → ju (ju (ju (ju I2 n 3 (nI (q 117 42))) 37 (q 117 42) (nI (pSk c N i))) 35 6 (nI (q 117 42 + 1))) 35 2 (nI (pSk c N i + 1)) a k = I2 a k := fun a k y1 y2 y3 => by rw [ju_ne (by omega), ju_ne (by omega), ju_ne (by omega), ju_ne (by omega)]
  have G3 : lG c N (pSk c N i + 1) (ju (ju (ju (ju I2 n 3 (nI (q 117 42))) 37 (q 117 42) (nI (pSk c N i))) 35 6 (nI (q 117 42 + 1))) 35 2 (nI (pSk c N i + 1))) := ⟨by omega, ⟨by rw [l3 _ _ (by omega) (by omega) (by omega)]; exact a7.2.1.1, fun j hj => by rw [l3 _ _ (by omega) (by omega) (by omega)]; exact a7.2.1.2.1 j hj, zu_at _ _ _ _⟩, by rw [l3 _ _ (by omega) (by omega) (by omega)]; exact a7.2.2⟩
  have Q3 : cQ (ju (ju (qSt q) 143 (q 117 42) (pSk c N i)) 117 42 (q 117 42 + 1)) (ju (ju (ju (ju I2 n 3 (nI (q 117 42))) 37 (q 117 42) (nI (pSk c N i))) 35 6 (nI (q 117 42 + 1))) 35 2 (nI (pSk c N i + 1))) := by
    obtain ⟨h1, h2, h3, h4, h5⟩ := a8
    refine ⟨?_, ?_, ?_, fun k hk => ?_, fun k hk => ?_⟩
    · rw [l3 _ _ (by omega) (by omega) (by omega), zu_k (by omega), zu_a (by omega)]; exact h1
    · rw [zu_at, zu_k (by omega), zu_at]
    · rw [l3 _ _ (by omega) (by omega) (by omega), zu_a (by omega), zu_a (by omega)]; exact h3
    · rw [zu_at] at hk
      by_cases hkn : k = q 117 42
      · rw [hkn]; simp (disch := omega) only [zu_a, zu_at]
      · rw [l3 _ _ (by omega) (by omega) (by omega), zu_a (by omega), zu_k hkn]; exact h4 k (by omega)
    · rw [zu_a (by omega), zu_a (by omega)] at hk
      rw [l3 _ _ (by omega) (by omega) (by omega), zu_a (by omega), zu_a (by omega)]; exact h5 k hk
  have N3 : ju (ju (ju (ju I2 n 3 (nI (q 117 42))) 37 (q 117 42) (nI (pSk c N i))) 35 6 (nI (q 117 42 + 1))) 35 2 (nI (pSk c N i + 1)) n 0 = nI 33 ∧ ju (ju (ju (ju I2 n 3 (nI (q 117 42))) 37 (q 117 42) (nI (pSk c N i))) 35 6 (nI (q 117 42 + 1))) 35 2 (nI (pSk c N i + 1)) n 3 = nI (q 117 42) := ⟨by rw [l3 _ _ (by omega) (by omega) (by omega)]; exact a9, by rw [zu_a (by omega), zu_a (by omega), zu_a (by omega), zu_at]⟩
  have F3 : ∀ I', (∀ a k, a ≤ g.2.2.2.1 → ¬ (a = 37 ∨ a = 38 ∨ (a = 35 ∧ k ≠ 1)) → I' a k = ju (ju (ju (ju I2 n 3 (nI (q 117 42))) 37 (q 117 42) (nI (pSk c N i))) 35 6 (nI (q 117 42 + 1))) 35 2 (nI (pSk c N i + 1)) a k) → fN L g.2.2.2.1 0 g g1 I I' J J2 := fun I' hI' => fN_t a1 (fN_e (fun a k ha hx => by rw [hI' a k ha hx, l3 a k (by omega) (by omega) (by omega)]))
  have start : jcall (d + 6) 69 [.ref 35, .int x1] (jGs L g, I, J) = jval (d + 5) 69 90 [.ref 35, .int x1, .int (nI 33), jjunk, .ref n] [] (jGs L g1, ju (ju (ju (ju I2 n 3 (nI (q 117 42))) 37 (q 117 42) (nI (pSk c N i))) 35 6 (nI (q 117 42 + 1))) 35 2 (nI (pSk c N i + 1)), J2) := by
    have ep : ju (ju (ju I2 n 3 (nI (q 117 42))) 37 (q 117 42) (nI (pSk c N i))) 35 6 (nI (q 117 42 + 1)) 35 2 = nI (pSk c N i) := by rw [zu_k (by omega), zu_a (by omega), zu_a (by omega)]; exact a7.2.1.2.2
    rw [a10, e_ProgramReader_statement_48, jif_t (by decide), b0, jcV_some, e_ProgramReader_statement_62, jif_t (by decide), ep, nI_1]
  generalize ju (ju (ju (ju I2 n 3 (nI (q 117 42))) 37 (q 117 42) (nI (pSk c N i))) 35 6 (nI (q 117 42 + 1))) 35 2 (nI (pSk c N i + 1)) = I3 at G3 Q3 N3 F3 start
  generalize hj : pSk c N i + 1 = j at G3
  obtain ⟨I4, b1, b2, b3⟩ := c_st_90 (d + 3) L g1 (J := J2) (x1 := x1) (x2 := nI 33) hN hc a3 hn9 a4 G3
  rw [start, b3, e_ProgramReader_statement_108, jif_t (by decide), show (59 : Int32) = nI 59 from rfl]
  have Q4 : cQ (ju (ju (qSt q) 143 (q 117 42) (pSk c N i)) 117 42 (q 117 42 + 1)) I4 := by
    obtain ⟨h1, h2, h3, h4, h5⟩ := Q3
    exact ⟨by rw [b1 _ _ (by omega) (by omega)]; exact h1, by rw [b1 _ _ (by omega) (by omega)]; exact h2, by rw [b1 _ _ (by omega) (by omega)]; exact h3, fun k hk => by rw [b1 _ _ (by omega) (by omega)]; exact h4 k hk, fun k hk => by rw [b1 _ _ (by omega) (by omega)]; exact h5 k hk⟩
  have N4 : I4 n 0 = nI 33 ∧ I4 n 3 = nI (q 117 42) := ⟨by rw [b1 _ _ (by omega) (by omega)]; exact N3.1, by rw [b1 _ _ (by omega) (by omega)]; exact N3.2⟩
  have F4 : ∀ I', (∀ a k, a ≤ g.2.2.2.1 → ¬ (a = 37 ∨ a = 38 ∨ (a = 35 ∧ k ≠ 1)) → I' a k = I4 a k) → fN L g.2.2.2.1 0 g g1 I I' J J2 := fun I' hI' => F3 I' (fun a k ha hx => by rw [hI' a k ha hx, b1 a k (by omega) (by omega)])
  have bad : ∀ p, fF c N p I4 → ∃ I', fN L g.2.2.2.1 0 g g1 I I' J J2 ∧ fF c N p I' ∧ jcV (jcall (d + 5) 79 [.ref 35, .int (nI 59)] (jGs L g1, I4, J2)) (fun S1 => jval (d + 5) 69 120 [jjunk, jjunk, jjunk, jjunk, .ref n] [] S1) = some (some (.ref n), (jGs L g1, I', J2)) := by
    intro p hp
    obtain ⟨I5, c1, c2, c3⟩ := c_take_f (d + 3) L g1 (J := J2) (x := 59) hN hc a3 (by omega) hp
    exact ⟨I5, F4 I5 (fun a k _ hx => c1 a k (by omega)), c2, by rw [c3, jcV_some, e_ProgramReader_statement_120]⟩
  unfold pAl
  obtain ⟨j1, j2⟩ := pSk_le (c := c) G3.1
  cases h1 : nO 0 (pCh c N j) with
  | none =>
    rw [h1] at b2
    obtain ⟨I5, c1, c2, c3⟩ := bad _ b2
    exact ⟨g1, I5, J2, c1, a2, cSt_f c2, a4, a5, a6, fun h => Bool.noConfusion h, c3⟩
  | some v =>
    rw [h1] at b2
    have jlt := pCh_lt (c := c) (N := N) (i := j) (by have := (nO_lt h1).2; omega)
    generalize hk : pSk c N j + 1 = k at b2
    obtain ⟨k1, k2⟩ := pSk_le (c := c) (show k ≤ N by omega)
    show ∃ g' I' J', fN L g.2.2.2.1 0 g g' I I' J J' ∧ g'.2.2.2.1 = n ∧ cSt c N (match nO 1 (pCh c N k) with
      | none => (false, pSk c N k, qSt q)
      | some w => if pCh c N (pSk c N k + 1) = 59 then (true, pSk c N (pSk c N k + 1) + 1, ju (qCome (ju (qSt q) 143 (qSt q 117 42) (pSk c N i)) 3 v w (qSt q 117 42)) 117 42 (qSt q 117 42 + 1)) else (false, pSk c N (pSk c N k + 1), qSt q)) I' ∧ gK L g' n = 4 ∧ (∀ k, g'.2.2.1 n k = none) ∧ g'.2.2.1 0 6 = g.2.2.1 0 6 ∧ ((match nO 1 (pCh c N k) with
      | none => (false, pSk c N k, qSt q)
      | some w => if pCh c N (pSk c N k + 1) = 59 then (true, pSk c N (pSk c N k + 1) + 1, ju (qCome (ju (qSt q) 143 (qSt q 117 42) (pSk c N i)) 3 v w (qSt q 117 42)) 117 42 (qSt q 117 42 + 1)) else (false, pSk c N (pSk c N k + 1), qSt q)).1 = true → nS (match nO 1 (pCh c N k) with
      | none => (false, pSk c N k, qSt q)
      | some w => if pCh c N (pSk c N k + 1) = 59 then (true, pSk c N (pSk c N k + 1) + 1, ju (qCome (ju (qSt q) 143 (qSt q 117 42) (pSk c N i)) 3 v w (qSt q 117 42)) 117 42 (qSt q 117 42 + 1)) else (false, pSk c N (pSk c N k + 1), qSt q)).2.2 I' n (q 117 35)) ∧ _
    cases h2 : nO 1 (pCh c N k) with
    | none =>
      simp only [h2] at b2
      obtain ⟨I5, c1, c2, c3⟩ := bad _ b2
      exact ⟨g1, I5, J2, c1, a2, cSt_f c2, a4, a5, a6, fun h => Bool.noConfusion h, c3⟩
    | some w =>
      simp only [h2] at b2
      have klt := pCh_lt (c := c) (N := N) (i := k) (by have := (nO_lt h2).2; omega)
      generalize hm : pSk c N k + 1 = m at b2
      obtain ⟨G4, N41, N42⟩ := b2
      obtain ⟨m1, m2⟩ := pSk_le (c := c) G4.1
      show ∃ g' I' J', fN L g.2.2.2.1 0 g g' I I' J J' ∧ g'.2.2.2.1 = n ∧ cSt c N (if pCh c N m = 59 then (true, pSk c N m + 1, ju (qCome (ju (qSt q) 143 (qSt q 117 42) (pSk c N i)) 3 v w (qSt q 117 42)) 117 42 (qSt q 117 42 + 1)) else (false, pSk c N m, qSt q)) I' ∧ gK L g' n = 4 ∧ (∀ k, g'.2.2.1 n k = none) ∧ g'.2.2.1 0 6 = g.2.2.1 0 6 ∧ ((if pCh c N m = 59 then (true, pSk c N m + 1, ju (qCome (ju (qSt q) 143 (qSt q 117 42) (pSk c N i)) 3 v w (qSt q 117 42)) 117 42 (qSt q 117 42 + 1)) else (false, pSk c N m, qSt q)).1 = true → nS (if pCh c N m = 59 then (true, pSk c N m + 1, ju (qCome (ju (qSt q) 143 (qSt q 117 42) (pSk c N i)) 3 v w (qSt q 117 42)) 117 42 (qSt q 117 42 + 1)) else (false, pSk c N m, qSt q)).2.2 I' n (q 117 35)) ∧ _
      by_cases h59 : pCh c N m = 59
      · have mlt := pCh_lt (c := c) (N := N) (i := m) (by omega)
        obtain ⟨I5, c1, c2, c3⟩ := c_take_t (d + 3) L g1 (J := J2) hN hc a3 (show 59 < 128 by omega) G4 h59
        rw [if_pos h59]
        have e350 : ju (qSt q) 143 (qSt q 117 42) (pSk c N i) 117 35 = q 117 35 := by rw [zu_a (by omega), e35]
        refine ⟨g1, I5, J2, F4 I5 (fun a k _ hx => c1 a k (by omega)), a2, cSt_t c2 (cQ_q (cQ_c Q4 c1) ?_ ?_ ?_ (fun k hk => ?_) (fun k hk => ?_)) ?_, a4, a5, a6, fun _ => ?_, ?_⟩
        · rw [zu_k (by omega), zu_k (by omega), qCome_r (by omega) (by omega), zu_a (by omega), zu_a (by omega)]
        · rw [zu_at, zu_at, e42]
        · rw [zu_a (by omega), zu_a (by omega), qCome_r (by omega) (by omega), zu_a (by omega), zu_a (by omega)]
        · rw [zu_a (by omega), zu_a (by omega), qCome_r (by omega) (by omega), e42]
        · rw [zu_a (by omega), zu_a (by omega), qCome_r (by omega) (by omega), zu_a (by omega), zu_a (by omega)]
        · rw [zu_a (by omega), qCome_r (by omega) (by omega), zu_a (by omega)]; omega
        · have fn : ∀ k, I5 n k = I4 n k := fun k => c1 n k (by omega)
          obtain ⟨y1, y2, y3, y4⟩ := qCome_at (ju (qSt q) 143 (qSt q 117 42) (pSk c N i)) 3 v w (qSt q 117 42)
          rw [e350] at y1 y2 y3 y4
          unfold nS
          simp (disch := omega) only [zu_a]
          rw [y1, y2, y3, y4, e42]
          exact ⟨by rw [fn]; exact N4.1, fun h => absurd h (by omega), fun h => absurd h (by omega), fun _ => ⟨by rw [fn]; exact N41, by rw [fn]; exact N42, by rw [fn]; exact N4.2⟩, fun h => absurd h (by omega)⟩
        · rw [c3, jcV_some, e_ProgramReader_statement_120]
      · obtain ⟨I5, c1, c2, c3⟩ := c_take_n (d + 3) L g1 (J := J2) hN hc a3 (show 59 < 128 by omega) G4 h59
        rw [if_neg h59]
        refine ⟨g1, I5, J2, F4 I5 (fun a k _ hx => c1 a k (by omega)), a2, cSt_f c2, a4, a5, a6, fun h => Bool.noConfusion h, ?_⟩
        rw [c3, jcV_some, e_ProgramReader_statement_120]
/-- the head of a statement with braces -/
theorem c_st_hd {c : Nat → Nat} {N i x : Nat} {x1 : Int32} {q : Nat → Nat → Nat} {I : Nat → Nat → Int32} {J : Nat → Nat → Int64} (hN : N ≤ 120) (hc : ∀ i, i < N → c i < 128) (hg : g.2.2.1 35 0 = some 2) (h168 : 170 ≤ g.2.2.2.1) (hC : g.2.2.2.1 + 1 ≤ 600000) (hQ : g.2.2.2.2 + 7 ≤ 7302250) (h : lG c N i I) (hq : cQ q I) (h8 : q 35 8 ≤ i) (hpc : pCh c N i = x) (hx : x = 63 ∨ x = 35 ∨ x = 43 ∨ x = 42) : ∃ g' I' J', fN L g.2.2.2.1 0 g g' I I' J J' ∧ g'.2.2.2.1 = g.2.2.2.1 + 1 ∧ g'.2.2.1 35 0 = some 2 ∧ cSt c N (pHd c N x (pSk c N i + 1) (qSt q)) I' ∧ gK L g' (g.2.2.2.1 + 1) = 4 ∧ (∀ k, g'.2.2.1 (g.2.2.2.1 + 1) k = none) ∧ g'.2.2.1 0 6 = g.2.2.1 0 6 ∧ ((pHd c N x (pSk c N i + 1) (qSt q)).1 = true → nS (pHd c N x (pSk c N i + 1) (qSt q)).2.2 I' (g.2.2.2.1 + 1) (q 117 35)) ∧ jcall (d + 6) 69 [.ref 35, .int x1] (jGs L g, I, J) = jval (d + 5) 69 108 [.ref 35, .int x1, .int (nI x), jjunk, .ref (g.2.2.2.1 + 1)] [] (jGs L g', I', J') := by
  obtain ⟨hs1, hs2⟩ := pSk_le (c := c) h.1
  have hlt := pCh_lt (c := c) (N := N) (i := i) (by omega)
  have hvn : vO x = none := by rcases hx with e | e | e | e <;> rw [e] <;> rfl
  obtain ⟨g1, I2, J2, a1, a2, a3, a4, a5, a6, a7, a8, a9, a10⟩ := c_st_48 (d + 4) L g (J := J) (x1 := x1) hN hc hg h168 hC hQ h hq hpc (by omega) hvn
  generalize hn : g.2.2.2.1 + 1 = n at *
  have hn9 : 171 ≤ n := by omega
  have e35 : qSt q 117 35 = q 117 35 := qSt_r (by omega)
  have e8 : qSt q 35 8 = q 35 8 := qSt_r (by omega)
  have hsg : sgO (sortO x) = x := by rcases hx with e | e | e | e <;> rw [e] <;> rfl
  have G3 : lG c N (pSk c N i + 1) (ju I2 35 2 (nI (pSk c N i + 1))) := ⟨by omega, lC_mv a7.2.1, by rw [zu_k (by omega)]; exact a7.2.2⟩
  have Q3 : cQ (qSt q) (ju I2 35 2 (nI (pSk c N i + 1))) := cQ_c a8 (fun a k hx => ju_ne (by omega))
  have F3 : ∀ I', (∀ a k, a ≤ g.2.2.2.1 → ¬ (a = 37 ∨ a = 38 ∨ (a = 35 ∧ k ≠ 1)) → I' a k = ju I2 35 2 (nI (pSk c N i + 1)) a k) → fN L g.2.2.2.1 0 g g1 I I' J J2 := fun I' hI' => fN_t a1 (fN_e (fun a k ha hx => by rw [hI' a k ha hx, ju_ne (by omega)]))
  have N3 : ju I2 35 2 (nI (pSk c N i + 1)) n 0 = nI x := by rw [zu_a (by omega)]; exact a9
  have ne : ∀ b, b < 128 → x ≠ b → ¬ nI x = nI b := fun b hb hne e => hne ((nI_eq (by omega) (by omega)).mp e)
  have start : jcall (d + 6) 69 [.ref 35, .int x1] (jGs L g, I, J) = jval (d + 5) 69 62 [.ref 35, .int x1, .int (nI x), jjunk, .ref n] [] (jGs L g1, I2, J2) := by
    rw [a10, e_ProgramReader_statement_48, jif_f (show ¬ nI x = (33 : Int32) from ne 33 (by omega) (by omega))]
  have s62 : jval (d + 5) 69 62 [.ref 35, .int x1, .int (nI x), jjunk, .ref n] [] (jGs L g1, I2, J2) = if x = 63 ∨ x = 35 then jval (d + 5) 69 90 [.ref 35, .int x1, .int (nI x), jjunk, .ref n] [] (jGs L g1, ju I2 35 2 (nI (pSk c N i + 1)), J2) else jval (d + 5) 69 108 [.ref 35, .int x1, .int (nI x), jjunk, .ref n] [] (jGs L g1, ju I2 35 2 (nI (pSk c N i + 1)), J2) := by
    rw [e_ProgramReader_statement_62, a7.2.1.2.2, nI_1, jif_f (show ¬ nI x = (33 : Int32) from ne 33 (by omega) (by omega))]
    by_cases h63 : x = 63
    · rw [jif_t (show nI x = (63 : Int32) by rw [h63]; rfl), if_pos (Or.inl h63)]
    · rw [jif_f (show ¬ nI x = (63 : Int32) from ne 63 (by omega) h63)]
      by_cases h35 : x = 35
      · rw [jif_t (show nI x = (35 : Int32) by rw [h35]; rfl), if_pos (Or.inr h35)]
      · rw [jif_f (show ¬ nI x = (35 : Int32) from ne 35 (by omega) h35), if_neg (by omega)]
  rw [start, s62]
  unfold pHd
  by_cases hask : x = 63 ∨ x = 35
  · rw [if_pos hask, if_pos hask]
    generalize ju I2 35 2 (nI (pSk c N i + 1)) = I3 at G3 Q3 N3 F3
    generalize hj : pSk c N i + 1 = j at G3
    obtain ⟨I4, b1, b2, b3⟩ := c_st_90 (d + 3) L g1 (J := J2) (x1 := x1) (x2 := nI x) hN hc a3 hn9 a4 G3
    have Q4 : cQ (qSt q) I4 := by
      obtain ⟨h1, h2, h3, h4, h5⟩ := Q3
      exact ⟨by rw [b1 _ _ (by omega) (by omega)]; exact h1, by rw [b1 _ _ (by omega) (by omega)]; exact h2, by rw [b1 _ _ (by omega) (by omega)]; exact h3, fun k hk => by rw [b1 _ _ (by omega) (by omega)]; exact h4 k hk, fun k hk => by rw [b1 _ _ (by omega) (by omega)]; exact h5 k hk⟩
    have N4 : I4 n 0 = nI x := by rw [b1 _ _ (by omega) (by omega)]; exact N3
    have F4 : fN L g.2.2.2.1 0 g g1 I I4 J J2 := F3 I4 (fun a k ha hx => b1 a k (by omega) (by omega))
    obtain ⟨j1, j2⟩ := pSk_le (c := c) G3.1
    refine ⟨g1, I4, J2, F4, a2, a3, ?_, a4, a5, a6, ?_, b3⟩
    · cases h1 : nO 0 (pCh c N j) with
      | none => rw [h1] at b2; exact cSt_f b2
      | some v =>
        rw [h1] at b2
        have jlt := pCh_lt (c := c) (N := N) (i := j) (by have := (nO_lt h1).2; omega)
        obtain ⟨k1, k2⟩ := pSk_le (c := c) (show pSk c N j + 1 ≤ N by omega)
        show cSt c N (match nO 1 (pCh c N (pSk c N j + 1)) with
          | none => (false, pSk c N (pSk c N j + 1), qSt q)
          | some w => (true, pSk c N (pSk c N j + 1) + 1, qCome (qSt q) (sortO x) v w 0)) I4
        cases h2 : nO 1 (pCh c N (pSk c N j + 1)) with
        | none => simp only [h2] at b2; exact cSt_f b2
        | some w =>
          simp only [h2] at b2
          exact cSt_t b2.1 (cQ_come Q4) (by rw [qCome_r (by omega) (by omega)]; omega)
    · intro ht
      cases h1 : nO 0 (pCh c N j) with
      | none => rw [h1] at ht; exact Bool.noConfusion ht
      | some v =>
        rw [h1] at ht b2
        revert ht
        show (match nO 1 (pCh c N (pSk c N j + 1)) with
          | none => (false, pSk c N (pSk c N j + 1), qSt q)
          | some w => (true, pSk c N (pSk c N j + 1) + 1, qCome (qSt q) (sortO x) v w 0)).1 = true → nS (match nO 1 (pCh c N (pSk c N j + 1)) with
          | none => (false, pSk c N (pSk c N j + 1), qSt q)
          | some w => (true, pSk c N (pSk c N j + 1) + 1, qCome (qSt q) (sortO x) v w 0)).2.2 I4 n (q 117 35)
        cases h2 : nO 1 (pCh c N (pSk c N j + 1)) with
        | none => intro ht; exact Bool.noConfusion ht
        | some w =>
          simp only [h2] at b2
          intro _
          have hs46 : sortO x = 4 ∨ sortO x = 6 := by rcases hask with e | e <;> rw [e] <;> decide
          rw [← e35]
          exact nS_come (by rw [hsg]; exact N4) (by omega) (fun h => by omega) (fun h => by omega) (fun _ => ⟨b2.2.1, b2.2.2⟩)
  · rw [if_neg hask, if_neg hask]
    have hs57 : sortO x = 5 ∨ sortO x = 7 := by
      have hx2 : x = 43 ∨ x = 42 := by omega
      rcases hx2 with e | e <;> rw [e] <;> decide
    refine ⟨g1, ju I2 35 2 (nI (pSk c N i + 1)), J2, F3 _ (fun _ _ _ _ => rfl), a2, a3, cSt_t G3 (cQ_come Q3) (by rw [qCome_r (by omega) (by omega)]; omega), a4, a5, a6, fun _ => ?_, rfl⟩
    rw [← e35]
    exact nS_come (by rw [hsg]; exact N3) (by omega) (fun h => by omega) (fun h => by omega) (fun h => by omega)
/-- braces behind a fault -/
theorem c_br_f {c : Nat → Nat} {N p k : Nat} {I : Nat → Nat → Int32} {J : Nat → Nat → Int64} (hN : N ≤ 120) (hc : ∀ i, i < N → c i < 128) (hg : g.2.2.1 35 0 = some 2) (hk : k < 100) (h : fF c N p I) : ∃ I', eCc I I' ∧ fF c N p I' ∧ jcall (d + 3) 75 [.ref 35, .int (nI k)] (jGs L g, I, J) = some (some .null, (jGs L g, I', J)) := by
  by_cases h5 : k < 5
  · obtain ⟨I2, b1, b2, b3⟩ := c_take_f d L g (J := J) (x := 123) hN hc hg (by omega) h
    refine ⟨I2, b1, b2, ?_⟩
    rw [c_ProgramReader_braces, e_ProgramReader_braces_0, jif_t (show nI k < (5 : Int32) from nI_lt (b := 5) h5 (by omega)), show (123 : Int32) = nI 123 from rfl, b3, jcV_some, e_ProgramReader_braces_22, jif_f (by rw [b2.2.1]; decide)]
  · obtain ⟨⟨i, hi, h1⟩, h2, h3⟩ := h
    obtain ⟨I1, a1, a2, a3⟩ := c_peek (d + 1) L g (J := J) hN hc hg hi h1
    have f1 := fF_2 ⟨⟨i, hi, h1⟩, h2, h3⟩ a1 (pSk_le hi).2 a2
    refine ⟨I1, eCc_2 a1, f1, ?_⟩
    rw [c_ProgramReader_braces, e_ProgramReader_braces_0, jif_f (show ¬ nI k < (5 : Int32) from nI_nlt (b := 5) (by omega) (by omega)), a3, jcI_some, e_ProgramReader_braces_9, c_fail_f (d + 1) L g f1.2.1, jcV_some, e_ProgramReader_braces_14]
end MM

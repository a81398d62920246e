/-! THE CLASS: a block -/
set_option maxRecDepth 100000
def flA : Option (Nat × Nat) → Value
  | none => .null
  | some p => .ref p.1
def flB : Option (Nat × Nat) → Value
  | none => .null
  | some p => .ref p.2
def flL : Option (Nat × Nat) → Nat
  | none => 0
  | some p => p.2
def flF (n : Nat) : Option (Nat × Nat) → Nat
  | none => n
  | some p => p.1
def flO : Option (Nat × Nat) → Option Nat → Value
  | none, x => jvo x
  | some p, _ => .ref p.1
theorem fN_n {L C C' l n : Nat} {g g' : jG} {I I' : Nat → Nat → Int32} {J J' : Nat → Nat → Int64} (h : fN L C' n g g' I I' J J') (h1 : C < n) (h2 : C ≤ C') : fN L C l g g' I I' J J' := by
  obtain ⟨a1, a2, a3, a4, a5, a6⟩ := h
  exact ⟨fun a k ha hx => a1 a k (by omega) hx, fun a ha => a2 a (by omega), fun a ha => a3 a (by omega), fun a k ha _ => a4 a k (by omega) (by omega), a5, a6⟩
theorem nB_t {L : Nat} {q q' : Nat → Nat → Nat} {g g' : jG} {I I' : Nat → Nat → Int32} {B B' f k n a j : Nat} (hP : qP q q') (hs : ∀ s, a ≤ s → s < j → qE q q' s) (hB : B ≤ B') (h4 : g'.2.2.1 n 4 = g.2.2.1 n 4) (h5 : g'.2.2.1 n 5 = g.2.2.1 n 5) (hh : ∀ n', n < n' → n' ≤ B → (∀ k, I' n' k = I n' k) ∧ gK L g' n' = gK L g n' ∧ g'.2.2.1 n' 4 = g.2.2.1 n' 4 ∧ g'.2.2.1 n' 5 = g.2.2.1 n' 5 ∧ g'.2.2.1 n' 6 = g.2.2.1 n' 6) (haj : a < j) (h : nB q g (nd L q g I B f) k n a j) : nB q' g' (nd L q' g' I' B' f) k n a j := by
  obtain ⟨e1, e2, e3, e4, e5, e6⟩ := hs a (by omega) haj
  rcases h with ⟨y1, y2, y3⟩ | ⟨y1, y2, e, y3, y4, y5, y6⟩ | ⟨y1, y2, m, e, y3, y4, y5, y6, y7, y8⟩
  · exact Or.inl ⟨by omega, by omega, y3⟩
  · obtain ⟨f1, f2, f3, f4, f5, f6⟩ := hs e (by omega) (by omega)
    refine Or.inr (Or.inl ⟨y1, by omega, e, ?_, y4, y5, by rw [h4]; exact nd_h hB _ _ _ _ _ _ hh (nd_q hP _ _ _ _ _ _ (fun s z1 z2 => hs s (by omega) (by omega)) y6)⟩)
    unfold eE
    rw [e1, e2, e3, e5, f1, f2, f3, f4, f5]
    exact y3
  · obtain ⟨f1, f2, f3, f4, f5, f6⟩ := hs e (by omega) (by omega)
    obtain ⟨o1, o2, o3, o4, o5, o6⟩ := hs m (by omega) (by omega)
    refine Or.inr (Or.inr ⟨y1, by omega, m, e, ?_, y4, y5, y6, by rw [h4]; exact nd_h hB _ _ _ _ _ _ hh (nd_q hP _ _ _ _ _ _ (fun s z1 z2 => hs s (by omega) (by omega)) y7), by rw [h5]; exact nd_h hB _ _ _ _ _ _ hh (nd_q hP _ _ _ _ _ _ (fun s z1 z2 => hs s (by omega) (by omega)) y8)⟩)
    unfold eS
    rw [e1, e2, e3, e5, f1, f4, o1, o2, o3, o4, o5]
    exact y3
section MM
variable (d L : Nat)
theorem c_bk_7f {x1 x4 : Int32} {a2 a3 : Nat} (g : jG) {I : Nat → Nat → Int32} {J : Nat → Nat → Int64} (h : I 35 3 = nI 1) : jval d 67 7 [.ref 35, .int x1, .ref a2, .ref a3, .int x4, jjunk] [] (jGs L g, I, J) = some (some (.ref a2), (jGs L g, I, J)) := by
  rw [e_ProgramReader_block_7a, jif_f (show ¬ I 35 3 = (0 : Int32) by rw [h]; decide), e_ProgramReader_block_63a]
  by_cases h1 : (120 : Int32) ≤ x4
  · rw [jif_t h1]
  · rw [jif_f h1]
theorem c_loop {c : Nat → Nat} {N : Nat} (hN : N ≤ 120) (hc : ∀ i, i < N → c i < 128) : ∀ f k e, e + k = 5 → ∀ i q t g I J fl, N + 1 ≤ f + i → lG c N i I → cQ q I → q 35 8 ≤ i → q 117 42 ≤ i → 2 * t ≤ i → g.2.2.1 35 0 = some 2 → 170 ≤ g.2.2.2.1 → g.2.2.2.1 + N ≤ 600000 + i → g.2.2.2.2 + 7 * N ≤ 7302250 + 7 * i → (∀ p, fl = some p → 171 ≤ p.2 ∧ p.2 ≤ g.2.2.2.1 ∧ gK L g p.2 = 4 ∧ g.2.2.1 p.2 6 = none) → ∃ g' I' J' x, fN L g.2.2.2.1 (flL fl) g g' I I' J J' ∧ g'.2.2.1 0 6 = g.2.2.1 0 6 ∧ ((pBlk c N f k i q).1 = true → g'.2.2.2.1 + i ≤ g.2.2.2.1 + (pBlk c N f k i q).2.1) ∧ g'.2.2.2.1 + i ≤ g.2.2.2.1 + N ∧ cSt c N (pBlk c N f k i q) I' ∧ ((pBlk c N f k i q).1 = true → nd L (pBlk c N f k i q).2.2 g' I' g'.2.2.2.1 f k g.2.2.2.1 x (q 117 35) ((pBlk c N f k i q).2.2 117 35)) ∧ (∀ p, fl = some p → g'.2.2.1 p.2 6 = x) ∧ jval (d + 3 * e + 6) 67 7 [.ref 35, .int (nI k), flA fl, flB fl, .int (nI t), jjunk] [] (jGs L g, I, J) = some (some (flO fl x), (jGs L g', I', J')) := by
  intro f
  induction f with
  | zero => intro k e he i q t g I J fl hf h; exact absurd h.1 (by omega)
  | succ f ih =>
    intro k e he i q t g I J fl hf h hq h8 h42 ht hg h168 hC hQ hfl
    obtain ⟨hs1, hs2⟩ := pSk_le (c := c) h.1
    have hi := h.1
    obtain ⟨I1, a1, a2, a3⟩ := c_peek (d + 3 * e + 5) L g (J := J) hN hc hg h.1 h.2.1
    have G1 : lG c N (pSk c N i) I1 := ⟨hs2, a2, by rw [a1 _ _ (by omega)]; exact h.2.2⟩
    have Q1 := cQ_c hq (eCc_2 a1)
    have F1 : ∀ l, fN L g.2.2.2.1 l g g I I1 J J := fun l => fN_e (fun a k _ hx => a1 a k (by omega))
    obtain ⟨k1, k2⟩ := pSk_pSk c N i hi
    have start : jval (d + 3 * e + 6) 67 7 [.ref 35, .int (nI k), flA fl, flB fl, .int (nI t), jjunk] [] (jGs L g, I, J) = jval (d + 3 * e + 6) 67 28 [.ref 35, .int (nI k), flA fl, flB fl, .int (nI t), jjunk] [.int (bI (isB (pCh c N i)))] (jGs L g, I1, J) := by
      cases fl with
      | none =>
        show jval (d + 3 * e + 6) 67 7 [.ref 35, .int (nI k), .null, .null, .int (nI t), jjunk] [] (jGs L g, I, J) = _
        rw [e_ProgramReader_block_7, show (120 : Int32) = nI 120 from rfl, jif_f (nI_ge (by omega) (by omega)), jif_t (show I 35 3 = (0 : Int32) from h.2.2), a3, jcI_some, e_ProgramReader_block_25, c_begins (d + 3 * e + 4) L g hc, jcI_some]
        rfl
      | some p =>
        show jval (d + 3 * e + 6) 67 7 [.ref 35, .int (nI k), .ref p.1, .ref p.2, .int (nI t), jjunk] [] (jGs L g, I, J) = _
        rw [e_ProgramReader_block_7a, show (120 : Int32) = nI 120 from rfl, jif_f (nI_ge (by omega) (by omega)), jif_t (show I 35 3 = (0 : Int32) from h.2.2), a3, jcI_some, e_ProgramReader_block_25a, c_begins (d + 3 * e + 4) L g hc, jcI_some]
        rfl
    rw [start, pBlk_stm]
    by_cases hb : isB (pCh c N i) = false
    · rw [if_pos hb, hb]
      refine ⟨g, I1, J, none, F1 _, rfl, fun _ => ?_, by omega, cSt_t G1 Q1 (by omega), fun _ => Or.inl ⟨rfl, rfl⟩, fun p hp => (hfl p hp).2.2.2, ?_⟩
      · show g.2.2.2.1 + i ≤ g.2.2.2.1 + pSk c N i
        omega
      · cases fl with
        | none =>
          show jval (d + 3 * e + 6) 67 28 [.ref 35, .int (nI k), .null, .null, .int (nI t), jjunk] [.int (bI false)] (jGs L g, I1, J) = _
          rw [e_ProgramReader_block_28, jif_t (by decide), e_ProgramReader_block_63]
          rfl
        | some p =>
          show jval (d + 3 * e + 6) 67 28 [.ref 35, .int (nI k), .ref p.1, .ref p.2, .int (nI t), jjunk] [.int (bI false)] (jGs L g, I1, J) = _
          rw [e_ProgramReader_block_28a, jif_t (by decide), e_ProgramReader_block_63a]
          rfl
    · rw [if_neg hb]
      have hbt : isB (pCh c N i) = true := by
        cases hh : isB (pCh c N i) with
        | true => rfl
        | false => exact absurd hh hb
      have hBl : k < 5 → BlkS (d + 3 * e + 4) L c N f (k + 1) := by
        intro hk5 i' q' g' I' J' y1 y2 y3 y4 y5 y6 y7 y8 y9
        obtain ⟨g3, I3, J3, x, z1, z2, z3, z4, z5, z6, z7, z8⟩ := ih (k + 1) (e - 1) (by omega) i' q' 0 g' I' J' none y1 y2 y3 y4 y5 (by omega) y6 y7 y8 y9 (fun p hp => by cases hp)
        refine ⟨g3, I3, J3, x, z1, z2, z3, z4, z5, z6, ?_⟩
        rw [show d + 3 * e + 4 = d + 3 * (e - 1) + 6 + 1 by omega, c_ProgramReader_block, e_ProgramReader_block_0]
        exact z8
      -- the statement, at the place where its sign stands
      have hpk : pStm c N f k (pSk c N i) q = pStm c N f k i q := by unfold pStm; rw [k1, k2]
      obtain ⟨g2, I2, J2, b1, b2, b3, b4, b5, b6, b7, b8, b9, b10⟩ := c_stm (d + 3 * e) L g (J := J) (f := f) (k := k) (i := pSk c N i) (q := q) hN hc (by omega) hBl (by omega) G1 Q1 (by omega) (by omega) hg h168 (by omega) (by omega) (by rw [k2]; exact hb)
      have hpi := pStm_i c N f k (pSk c N i) q hs2 (by rw [k2]; exact hb)
      rw [hpk] at b4 b6 b9 hpi
      have hn9 : 171 ≤ g.2.2.2.1 + 1 := by omega
      have hg2 : g2.2.2.1 35 0 = some 2 := (b1.2.2.2.1 35 0 (by omega) (by omega)).trans hg
      -- the node is linked
      obtain ⟨g3, l1, l2, l3, l4, l5, l6⟩ : ∃ g3 : jG, (∀ a kk, ¬ (fl ≠ none ∧ a = flL fl ∧ kk = 6) → g3.2.2.1 a kk = g2.2.2.1 a kk) ∧ (∀ a, gK L g3 a = gK L g2 a ∧ gN L g3 a = gN L g2 a) ∧ g3.2.2.2.1 = g2.2.2.2.1 ∧ g3.2.2.2.2 = g2.2.2.2.2 ∧ (∀ p, fl = some p → g3.2.2.1 p.2 6 = some (g.2.2.2.1 + 1)) ∧ jval (d + 3 * e + 6) 67 28 [.ref 35, .int (nI k), flA fl, flB fl, .int (nI t), jjunk] [.int (bI (isB (pCh c N i)))] (jGs L g, I1, J) = jval (d + 3 * e + 6) 67 7 [.ref 35, .int (nI k), flA (some (flF (g.2.2.2.1 + 1) fl, g.2.2.2.1 + 1)), .ref (g.2.2.2.1 + 1), .int (nI (t + 1)), jjunk] [] (jGs L g3, I2, J2) := by
        cases fl with
        | none =>
          refine ⟨g2, fun _ _ _ => rfl, fun _ => ⟨rfl, rfl⟩, rfl, rfl, fun p hp => (by cases hp), ?_⟩
          show jval (d + 3 * e + 6) 67 28 [.ref 35, .int (nI k), .null, .null, .int (nI t), jjunk] [.int (bI (isB (pCh c N i)))] (jGs L g, I1, J) = jval (d + 3 * e + 6) 67 7 [.ref 35, .int (nI k), .ref (g.2.2.2.1 + 1), .ref (g.2.2.2.1 + 1), .int (nI (t + 1)), jjunk] [] (jGs L g2, I2, J2)
          rw [hbt, e_ProgramReader_block_28, jif_f (by decide), b10, jcR_some, e_ProgramReader_block_36a, e_ProgramReader_block_54a, nI_1]
        | some p =>
          obtain ⟨p1, p2, p3, p4⟩ := hfl p rfl
          refine ⟨jgsR g2 p.2 6 (some (g.2.2.2.1 + 1)), fun a kk hx => ju_ne (by
            have hx' : ¬ (a = p.2 ∧ kk = 6) := fun ee => hx ⟨fun e0 => (by cases e0), ee⟩
            omega), fun _ => ⟨rfl, rfl⟩, rfl, rfl, fun p' hp' => by cases hp'; exact zu_at _ _ _ _, ?_⟩
          show jval (d + 3 * e + 6) 67 28 [.ref 35, .int (nI k), .ref p.1, .ref p.2, .int (nI t), jjunk] [.int (bI (isB (pCh c N i)))] (jGs L g, I1, J) = jval (d + 3 * e + 6) 67 7 [.ref 35, .int (nI k), .ref p.1, .ref (g.2.2.2.1 + 1), .int (nI (t + 1)), jjunk] [] (jGs L (jgsR g2 p.2 6 (some (g.2.2.2.1 + 1))), I2, J2)
          rw [hbt, e_ProgramReader_block_28a, jif_f (by decide), b10, jcR_some, e_ProgramReader_block_36c, if_pos ((b1.2.2.1 _ p2).1.trans p3), jGs_R (jr0_dyn p1 6), e_ProgramReader_block_54a, nI_1]
      have hl0 : flL fl ≤ g.2.2.2.1 ∧ (flL fl = 0 ∨ 171 ≤ flL fl) := by
        cases fl with
        | none => exact ⟨Nat.zero_le _, Or.inl rfl⟩
        | some p => exact ⟨(hfl p rfl).2.1, Or.inr (hfl p rfl).1⟩
      have F2 : fN L g.2.2.2.1 (flL fl) g g2 I I2 J J2 := fN_t (F1 _) (fN_l b1 b2)
      have F3 : fN L g.2.2.2.1 (flL fl) g g3 I I2 J J2 := fN_t F2 ⟨fun _ _ _ _ => rfl, fun _ _ => rfl, fun a _ => l2 a, fun a kk _ hx => l1 a kk (fun ee => hx ee.2), by omega, by omega⟩
      have lne : ∀ a kk, a ≠ flL fl ∨ kk ≠ 6 → g3.2.2.1 a kk = g2.2.2.1 a kk := fun a kk hx => l1 a kk (fun ee => by omega)
      have hg3 : g3.2.2.1 35 0 = some 2 := (lne 35 0 (by omega)).trans hg2
      have r306 : g3.2.2.1 0 6 = g.2.2.1 0 6 := by
        refine (l1 0 6 (fun ee => ?_)).trans b2
        cases fl with
        | none => exact ee.1 rfl
        | some p =>
          have e1 := (hfl p rfl).1
          have e2 : 0 = p.2 := ee.2.1
          omega
      rw [l6]
      have flO_eq : ∀ y, flO (some (flF (g.2.2.2.1 + 1) fl, g.2.2.2.1 + 1)) y = flO fl (some (g.2.2.2.1 + 1)) := fun y => by cases fl <;> rfl
      rcases hp : pStm c N f k i q with ⟨b, i1, q1⟩
      rw [hp] at b4 b6 b9 hpi
      cases b
      · refine ⟨g3, I2, J2, some (g.2.2.2.1 + 1), F3, r306, fun h => Bool.noConfusion h, by omega, cSt_f (b6.2 rfl), fun h => Bool.noConfusion h, l5, ?_⟩
        rw [← flO_eq none]
        exact c_bk_7f (d + 3 * e + 6) L g3 (b6.2 rfl).2.1
      · obtain ⟨G2, Q2, q28⟩ := b6.1 rfl
        obtain ⟨m1, m2, m3, m4⟩ := b9 rfl
        have m3' : q 117 35 < q1 117 35 := m3
        have m4' : nB q1 g2 (nd L q1 g2 I2 g2.2.2.2.1 f) k (g.2.2.2.1 + 1) (q 117 35) (q1 117 35) := m4
        have b4' : g2.2.2.2.1 + pSk c N i ≤ g.2.2.2.1 + i1 := b4 rfl
        have q28' : q1 35 8 ≤ i1 := q28
        obtain ⟨w1, w2, w3⟩ := hpi rfl
        have w1' : pSk c N i + 2 ≤ i1 := w1
        have w3' : q1 117 42 + pSk c N i ≤ q 117 42 + i1 := w3
        have FQ := F3.2.2.2.2.2
        obtain ⟨g4, I4, J4, x', z1, z2, z3, z4, z5, z6, z7, z8⟩ := ih k e he i1 q1 (t + 1) g3 I2 J2 (some (flF (g.2.2.2.1 + 1) fl, g.2.2.2.1 + 1)) (by omega) G2 Q2 q28' (by omega) (by omega) hg3 (by omega) (by omega) (by omega) (fun p hp => by
          cases hp
          exact ⟨hn9, show g.2.2.2.1 + 1 ≤ g3.2.2.2.1 by omega, (l2 _).1.trans b7, (lne _ 6 (by omega)).trans b8⟩)
        have z1n : fN L g3.2.2.2.1 (g.2.2.2.1 + 1) g3 g4 I2 I4 J2 J4 := z1
        have zC := z1n.2.2.2.2.1
        have hK := pBlk_K c N f k i1 q1
        rw [pGo_t]
        have stay : ∀ n', g.2.2.2.1 + 1 < n' → n' ≤ g2.2.2.2.1 → (∀ kk, I4 n' kk = I2 n' kk) ∧ gK L g4 n' = gK L g2 n' ∧ g4.2.2.1 n' 4 = g2.2.2.1 n' 4 ∧ g4.2.2.1 n' 5 = g2.2.2.1 n' 5 ∧ g4.2.2.1 n' 6 = g2.2.2.1 n' 6 := fun n' y1 y2 => ⟨fun kk => z1n.1 n' kk (by omega) (by omega), (z1n.2.2.1 n' (by omega)).1.trans (l2 n').1, (z1n.2.2.2.1 n' 4 (by omega) (by omega)).trans (lne n' 4 (by omega)), (z1n.2.2.2.1 n' 5 (by omega) (by omega)).trans (lne n' 5 (by omega)), (z1n.2.2.2.1 n' 6 (by omega) (by omega)).trans (lne n' 6 (by omega))⟩
        refine ⟨g4, I4, J4, some (g.2.2.2.1 + 1), fN_t F3 (fN_n z1n (by omega) (by omega)), z2.trans r306, fun htt => ?_, by omega, z5, fun htt => ?_, fun p hpp => ?_, ?_⟩
        · have := z3 htt; omega
        · have hnd := z6 htt
          rcases hpb : pBlk c N f k i1 q1 with ⟨bb, i2, q2⟩
          rw [hpb] at hnd hK
          have hK' : qK q1 q2 := hK
          have hnd' : nd L q2 g4 I4 g4.2.2.2.1 f k g3.2.2.2.1 x' (q1 117 35) (q2 117 35) := hnd
          obtain ⟨t1, t2, t3, t4, t5, t6⟩ := hK'.2.1 (q 117 35) m3'
          have zx : g4.2.2.1 (g.2.2.2.1 + 1) 6 = x' := z7 _ rfl
          refine Or.inr ⟨g.2.2.2.1 + 1, q1 117 35, rfl, by omega, by omega, (z1n.2.2.1 _ (by omega)).1.trans ((l2 _).1.trans b7), ?_, bS_q (qK_P hK') ⟨t1, t2, t3, t4, t6⟩ m2, m3', hK'.1.1, ?_, ?_⟩
          · exact nS_I (fun kk => z1n.1 _ kk (by omega) (by omega)) (nS_q ⟨t1, t2, t3, t4, t6⟩ m1)
          · exact nB_t (qK_P hK') (fun s y1 y2 => hK'.2.1 s y2) (by omega) ((z1n.2.2.2.1 _ 4 (by omega) (by omega)).trans (lne _ 4 (by omega))) ((z1n.2.2.2.1 _ 5 (by omega) (by omega)).trans (lne _ 5 (by omega))) stay m3' m4'
          · rw [zx]; exact nd_lo f k g3.2.2.2.1 _ _ _ _ (by omega) hnd'
        · have e1 := (hfl p hpp).2.1
          exact (z1n.2.2.2.1 p.2 6 (by omega) (by omega)).trans (l5 p hpp)
        · rw [← flO_eq x']; exact z8
theorem c_block {c : Nat → Nat} {N : Nat} (hN : N ≤ 120) (hc : ∀ i, i < N → c i < 128) : BlkS (d + 22) L c N (N + 1) 0 := by
  intro i' q' g' I' J' y1 y2 y3 y4 y5 y6 y7 y8 y9
  obtain ⟨g3, I3, J3, x, z1, z2, z3, z4, z5, z6, z7, z8⟩ := c_loop d L hN hc (N + 1) 0 5 rfl i' q' 0 g' I' J' none y1 y2 y3 y4 y5 (by omega) y6 y7 y8 y9 (fun p hp => by cases hp)
  refine ⟨g3, I3, J3, x, z1, z2, z3, z4, z5, z6, ?_⟩
  rw [c_ProgramReader_block, e_ProgramReader_block_0]
  exact z8
end MM

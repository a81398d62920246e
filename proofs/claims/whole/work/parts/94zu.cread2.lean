/-! THE CLASS: a program is read, all of it -/
set_option maxRecDepth 100000
theorem e_Program_init_0n (d L : Nat) (g : jG) (I : Nat → Nat → Int32) (J : Nat → Nat → Int64) (a0 : Nat) (x2 : Int32) (a3 : Nat) (a4 : Nat) : jval d 60 0 [.ref a0, .null, .int x2, .ref a3, .ref a4] [] ((jGs L g), I, J) = if (jGs L g).1 a0 = 6 then (jval d 60 9 [.ref a0, jjunk, .int x2, .ref a3, .ref a4] [] ((jgsR (jGs L g) a0 0 none), I, J)) else none := (jgo ps_Program_init 400 d 0 _ _ _ rfl rfl rfl rfl rfl).trans rfl
theorem c_Program_initn (d : Nat) (a0 : Nat) (x2 : Int32) (a3 : Nat) (a4 : Nat) (S : jS) : jcall (d + 1) 60 [.ref a0, .null, .int x2, .ref a3, .ref a4] S = jval d 60 0 [.ref a0, .null, .int x2, .ref a3, .ref a4] [] S := rfl
/-- a cell that only a reading makes, or the first program's -/
def okc (a : Nat) : Prop := (9 ≤ a ∧ a ≤ 11) ∨ 171 ≤ a
/-- p is the program q -/
def pg (L : Nat) (q : Nat → Nat → Nat) (g : jG) (I : Nat → Nat → Int32) (p F B : Nat) : Prop := okc p ∧ p ≤ B ∧ gK L g p = 6 ∧ I p 1 = nI (q 117 41) ∧ (∃ cr, gR L g p 2 = some cr ∧ okc cr ∧ cr ≤ B ∧ gK L g cr = 14 ∧ gN L g cr = q 35 8 ∧ ∀ j, j < q 35 8 → I cr j = nI (q 38 j)) ∧ (∃ ar, gR L g p 3 = some ar ∧ okc ar ∧ ar ≤ B ∧ gK L g ar = 15 ∧ gN L g ar = q 117 42 ∧ ∀ j, j < q 117 42 → I ar j = nI (q 143 j)) ∧ nd L q g I B F 0 170 (gR L g p 0) 0 (q 117 35)
def fR (L C : Nat) (g g' : jG) (I I' : Nat → Nat → Int32) (J J' : Nat → Nat → Int64) : Prop := (∀ a k, a ≤ C → a ≠ 35 → a ≠ 37 → a ≠ 38 → I' a k = I a k) ∧ (∀ a, a ≤ C → J' a = J a) ∧ (∀ a, a ≤ C → gK L g' a = gK L g a ∧ gN L g' a = gN L g a) ∧ (∀ a k, a ≤ C → ¬ (a = 35 ∧ k = 0) → g'.2.2.1 a k = g.2.2.1 a k) ∧ g.2.2.2.1 ≤ g'.2.2.2.1
/-- the counters of a read program -/
theorem pPrg_b {c : Nat → Nat} {N i : Nat} {q : Nat → Nat → Nat} (hN : N ≤ 120) (hc : ∀ i, i < N → c i < 128) (h : pPrg c N = (true, i, q)) : pBd N q := by
  rcases r_readsProgram 0 0 (fun _ => 0, fun _ => 0, fun _ _ => none, 0, 0) (J := fun _ _ => 0) (I := fun a k => if a = 148 then nI (c k) else nI N) hN hc rfl (fun j _ => rfl) with ⟨i', q', I', z1, z2, z3, z4, z5⟩ | ⟨p, q', I', z1, z2⟩
  · rw [h] at z1
    cases z1
    exact z4
  · rw [h] at z1
    cases z1
section MM
variable (d L : Nat)
theorem c_rd_45 {x : Option Nat} (g : jG) {I : Nat → Nat → Int32} {J : Nat → Nat → Int64} : jval d 66 45 [.ref 35, jjunk, jjunk, jjunk] [jvo x] (jGs L g, I, J) = jif ((I 35 3) = 0) (jcI (jcall d 80 [.ref 35] ((jGs L g), I, J)) (fun r2 S1 => jval d 66 57 [.ref 35, jjunk, jjunk, jvo x] [.int r2] S1)) (jval d 66 65 [.ref 35, jjunk, jjunk, jvo x] [] ((jGs L g), I, J)) := by
  cases x with
  | none => exact e_ProgramReader_read_45 d L g I J
  | some a => exact e_ProgramReader_read_45a d L g I J a
theorem c_rd_57 {x : Option Nat} {y : Int32} (g : jG) {I : Nat → Nat → Int32} {J : Nat → Nat → Int64} : jval d 66 57 [.ref 35, jjunk, jjunk, jvo x] [.int y] (jGs L g, I, J) = jif (y = (-1 : Int32)) (jval d 66 65 [.ref 35, jjunk, jjunk, jvo x] [] ((jGs L g), I, J)) (jcV (jcall d 81 [.ref 35] ((jGs L g), I, J)) (fun S1 => jval d 66 65 [.ref 35, jjunk, jjunk, jvo x] [] S1)) := by
  cases x with
  | none => exact e_ProgramReader_read_57 d L g I J y
  | some a => exact e_ProgramReader_read_57a d L g I J a y
theorem c_rd_65 {x : Option Nat} (g : jG) {I : Nat → Nat → Int32} {J : Nat → Nat → Int64} : jval d 66 65 [.ref 35, jjunk, jjunk, jvo x] [] (jGs L g, I, J) = jif ((I 35 3) = 0) (cond (jrm ((jGs L g), I, J) 4) (jval d 66 77 [.ref 35, jjunk, jjunk, jvo x] [.ref (g.2.2.2.1 + 1)] (jal ((jGs L g), I, J) 6 0 4)) none) (some (some .null, ((jGs L g), I, J))) := by
  cases x with
  | none => exact e_ProgramReader_read_65 d L g I J
  | some a => exact e_ProgramReader_read_65a d L g I J a
theorem c_rd_77 {x : Option Nat} {p : Nat} (g : jG) {I : Nat → Nat → Int32} {J : Nat → Nat → Int64} : jval d 66 77 [.ref 35, jjunk, jjunk, jvo x] [.ref p] (jGs L g, I, J) = jcR (jcall d 280 [.ref 38, .int (I 35 8)] ((jGs L g), I, J)) (fun S1 => jval d 66 94 [.ref 35, jjunk, jjunk, jjunk] [.null, .int (I 35 5), jvo x, .ref p, .ref p] S1) (fun b2 S1 => jval d 66 94 [.ref 35, jjunk, jjunk, jjunk] [.ref b2, .int (I 35 5), jvo x, .ref p, .ref p] S1) := by
  cases x with
  | none => exact e_ProgramReader_read_77 d L g I J p
  | some a => exact e_ProgramReader_read_77a d L g I J a p
theorem c_rd_94 {x : Option Nat} {p cr : Nat} {y : Int32} (g : jG) {I : Nat → Nat → Int32} {J : Nat → Nat → Int64} : jval d 66 94 [.ref 35, jjunk, jjunk, jjunk] [.ref cr, .int y, jvo x, .ref p, .ref p] (jGs L g, I, J) = jcR (jcall d 281 [.ref 37, .int (I 35 6)] ((jGs L g), I, J)) (fun S1 => jval d 66 105 [jjunk, jjunk, jjunk, jjunk] [.null, .ref cr, .int y, jvo x, .ref p, .ref p] S1) (fun b2 S1 => jval d 66 105 [jjunk, jjunk, jjunk, jjunk] [.ref b2, .ref cr, .int y, jvo x, .ref p, .ref p] S1) := by
  cases x with
  | none => exact e_ProgramReader_read_94a d L g I J p p y cr
  | some a => exact e_ProgramReader_read_94c d L g I J p p a y cr
theorem c_rd_105 {x : Option Nat} {p cr ar : Nat} {y : Int32} (g : jG) {I : Nat → Nat → Int32} {J : Nat → Nat → Int64} (hp : 171 ≤ p) (kp : (jGs L g).1 p = 6) : jval (d + 1) 66 105 [jjunk, jjunk, jjunk, jjunk] [.ref ar, .ref cr, .int y, jvo x, .ref p, .ref p] (jGs L g, I, J) = some (some (.ref p), (jGs L (jgsR (jgsR (jgsR g p 0 x) p 2 (some cr)) p 3 (some ar)), ju I p 1 y, J)) := by
  have k1 : (jGs L (jgsR g p 0 x)).1 p = 6 := kp
  have k2 : (jGs L (jgsR (jgsR g p 0 x) p 2 (some cr))).1 p = 6 := kp
  have t9 : jval d 60 9 [.ref p, jjunk, .int y, .ref cr, .ref ar] [] (jGs L (jgsR g p 0 x), I, J) = some (none, (jGs L (jgsR (jgsR (jgsR g p 0 x) p 2 (some cr)) p 3 (some ar)), ju I p 1 y, J)) := by
    rw [e_Program_init_9, if_pos k1, if_pos k1, jGs_R (jr0_dyn hp 2), e_Program_init_19, if_pos k2, jGs_R (jr0_dyn hp 3), e_Program_init_25]
  cases x with
  | none =>
    show jval (d + 1) 66 105 [jjunk, jjunk, jjunk, jjunk] [.ref ar, .ref cr, .int y, .null, .ref p, .ref p] (jGs L g, I, J) = _
    rw [e_ProgramReader_read_105c, c_Program_initn, e_Program_init_0n, if_pos kp, jGs_R (jr0_dyn hp 0), t9, jcV_some, e_ProgramReader_read_108]
  | some a =>
    show jval (d + 1) 66 105 [jjunk, jjunk, jjunk, jjunk] [.ref ar, .ref cr, .int y, .ref a, .ref p, .ref p] (jGs L g, I, J) = _
    rw [e_ProgramReader_read_105g, c_Program_init, e_Program_init_0, if_pos kp, jGs_R (jr0_dyn hp 0), t9, jcV_some, e_ProgramReader_read_108]
theorem c_readP {c : Nat → Nat} {N : Nat} (g : jG) {I : Nat → Nat → Int32} {J : Nat → Nat → Int64} (hN : N ≤ 120) (hc : ∀ i, i < N → c i < 128) (hb : ∀ j, j < N → I 2 j = nI (c j)) (h168 : 170 ≤ g.2.2.2.1) (hC : g.2.2.2.1 + N + 3 ≤ 600000) (hQ : g.2.2.2.2 + 7 * N + 244 ≤ 7302250) : ∃ g' I' J' p, fR L g.2.2.2.1 g g' I I' J J' ∧ g'.2.2.2.1 ≤ g.2.2.2.1 + N + 3 ∧ (g.2.2.2.2 ≤ g'.2.2.2.2 ∧ g'.2.2.2.2 ≤ g.2.2.2.2 + 7 * N + 244) ∧ ((pPrg c N).1 = true → (g.2.2.2.1 < p ∧ ∀ y, gR L g' p 2 = some y ∨ gR L g' p 3 = some y → g.2.2.2.1 < y) ∧ pg L (pPrg c N).2.2 g' I' p (N + 1) g'.2.2.2.1 ∧ jcall (d + 24) 66 [.ref 35, .ref 2, .int (nI N)] (jGs L g, I, J) = some (some (.ref p), (jGs L g', I', J'))) ∧ ((pPrg c N).1 = false → I' 35 4 = nI (pPrg c N).2.1 ∧ jcall (d + 24) 66 [.ref 35, .ref 2, .int (nI N)] (jGs L g, I, J) = some (some .null, (jGs L g', I', J'))) := by
  have hg0 : (jgsR g 35 0 (some 2)).2.2.1 35 0 = some 2 := by
    show ju g.2.2.1 35 0 (some 2) 35 0 = some 2
    exact zu_at _ _ _ _
  generalize hI0 : ju (ju (ju (ju (ju (ju I 35 1 (nI N)) 35 2 (nI 0)) 35 3 (nI 0)) 35 5 (nI 0)) 35 6 (nI 0)) 35 8 (nI 0) = I0
  have L0 : lG c N 0 I0 := by
    refine ⟨by omega, ⟨?_, fun j hj => ?_, ?_⟩, ?_⟩ <;> rw [← hI0]
    · simp (disch := omega) only [zu_k, zu_a, zu_at]
    · simp (disch := omega) only [zu_k, zu_a]; exact hb j hj
    · simp (disch := omega) only [zu_k, zu_a, zu_at]
    · simp (disch := omega) only [zu_k, zu_a, zu_at]
  have Q0 : cQ (fun _ _ => 0) I0 := by
    refine ⟨?_, ?_, ?_, fun k hk => absurd hk (Nat.not_lt_zero k), fun k hk => absurd hk (Nat.not_lt_zero k)⟩ <;> rw [← hI0]
    · simp (disch := omega) only [zu_k, zu_a, zu_at]
    · simp (disch := omega) only [zu_k, zu_a, zu_at]
    · simp (disch := omega) only [zu_k, zu_a, zu_at]
  have f0 : ∀ a k, a ≠ 35 → I0 a k = I a k := fun a k ha => by
    rw [← hI0]
    simp (disch := omega) only [zu_a]
  obtain ⟨g1, I1, J1, x, z1, z2, z3, z4, z5, z6, z7⟩ := c_block (d + 1) L hN hc 0 (fun _ _ => 0) (jgsR g 35 0 (some 2)) I0 J (by omega) L0 Q0 (Nat.le_refl 0) (Nat.le_refl 0) hg0 h168 (by show g.2.2.2.1 + N ≤ _; omega) (by show g.2.2.2.2 + 7 * N ≤ _; omega)
  have z1' : fN L g.2.2.2.1 0 (jgsR g 35 0 (some 2)) g1 I0 I1 J J1 := z1
  have zC : g.2.2.2.1 ≤ g1.2.2.2.1 := z1.2.2.2.2.1
  have zQ : g1.2.2.2.2 + 7 * g.2.2.2.1 = g.2.2.2.2 + 7 * g1.2.2.2.1 := z1.2.2.2.2.2
  have z4' : g1.2.2.2.1 + 0 ≤ g.2.2.2.1 + N := z4
  have start : jcall (d + 24) 66 [.ref 35, .ref 2, .int (nI N)] (jGs L g, I, J) = jval (d + 23) 66 45 [.ref 35, jjunk, jjunk, jjunk] [jvo x] (jGs L g1, I1, J1) := by
    rw [c_ProgramReader_read, e_ProgramReader_read_0, jGs_R rfl, e_ProgramReader_read_5, if_pos (show 14 ≤ (jGs L (jgsR g 35 0 (some 2))).1 2 from Nat.le_refl 14), jif_t (Or.inl rfl), show (jGs L (jgsR g 35 0 (some 2))).2.1 2 = 120 from rfl, show Int32.ofNat 120 = nI 120 from rfl, jmm_le hN (by omega), show (0 : Int32) = nI 0 from rfl, hI0, z7, jcR_o]
    cases x <;> rfl
  have F1 : fR L g.2.2.2.1 g g1 I I1 J J1 := by
    obtain ⟨a1, a2, a3, a4, a5, a6⟩ := z1'
    refine ⟨fun a k ha h1 h2 h3 => (a1 a k ha (by omega)).trans (f0 a k h1), a2, fun a ha => a3 a ha, fun a k ha hx => ?_, zC⟩
    by_cases h06 : a = 0 ∧ k = 6
    · rw [h06.1, h06.2, z2]
      show ju g.2.2.1 35 0 (some 2) 0 6 = _
      exact ju_ne (by omega)
    · rw [a4 a k ha h06]
      show ju g.2.2.1 35 0 (some 2) a k = _
      exact ju_ne (by omega)
  have F1' : ∀ I', (∀ a k, a ≠ 35 → I' a k = I1 a k) → fR L g.2.2.2.1 g g1 I I' J J1 := fun I' hI' => ⟨fun a k ha h1 h2 h3 => (hI' a k h1).trans (F1.1 a k ha h1 h2 h3), F1.2⟩
  -- a fault
  have bad : ∀ I', I' 35 3 = nI 1 → jval (d + 23) 66 65 [.ref 35, jjunk, jjunk, jvo x] [] (jGs L g1, I', J1) = some (some .null, (jGs L g1, I', J1)) := fun I' h3 => by
    rw [c_rd_65, jif_f (by rw [h3]; decide)]
  have hg1 : g1.2.2.1 35 0 = some 2 := (z1'.2.2.2.1 35 0 (by omega) (by omega)).trans hg0
  have hJ := pBlk_j c N (N + 1) 0 0 (fun _ _ => 0) (by omega)
  have hI1 := pBlk_i c N (N + 1) 0 0 (fun _ _ => 0) (by omega)
  rw [start, c_rd_45]
  unfold pPrg
  rcases hp : pBlk c N (N + 1) 0 0 (fun _ _ => 0) with ⟨b, i1, q1⟩
  rw [hp] at z5 z6 hJ hI1
  cases b
  · have f1 : fF c N i1 I1 := z5.2 rfl
    rw [jif_f (by rw [f1.2.1]; decide), bad I1 f1.2.1, pGo_f]
    exact ⟨g1, I1, J1, 0, F1, by omega, ⟨by omega, by omega⟩, fun h => Bool.noConfusion h, fun _ => ⟨f1.2.2, rfl⟩⟩
  · obtain ⟨G1, Q1, q18⟩ := z5.1 rfl
    have G1' : lG c N i1 I1 := G1
    have nd1 : nd L q1 g1 I1 g1.2.2.2.1 (N + 1) 0 g.2.2.2.1 x 0 (q1 117 35) := z6 rfl
    have i1N : i1 ≤ N := G1'.1
    obtain ⟨hs1, hs2⟩ := pSk_le (c := c) i1N
    have h8 : q1 35 8 < 120 := by
      have hj2 : q1 35 8 = 0 ∨ q1 35 8 + 0 + 1 ≤ 0 + i1 := (hJ rfl).2
      omega
    obtain ⟨I2, a1, a2, a3⟩ := c_peek (d + 22) L g1 (J := J1) hN hc hg1 i1N G1'.2.1
    have h23 : I2 35 3 = nI 0 := by rw [a1 _ _ (by omega)]; exact G1'.2.2
    rw [jif_t (show I1 35 3 = (0 : Int32) from G1'.2.2), a3, jcI_some, c_rd_57, pGo_t]
    by_cases h255 : pCh c N i1 = 255
    · have h42 : q1 117 42 < 120 := by
        have := pPrg_b hN hc (show pPrg c N = (true, i1, q1) by unfold pPrg; rw [hp, pGo_t, if_pos h255])
        have := this.2.2.2
        omega
      rw [if_pos h255, jif_t (hV_end h255 hc), c_rd_65, jif_t (show I2 35 3 = (0 : Int32) from h23), jrm_t (by omega) (by omega), cond_true]
      have Q2 : cQ q1 I2 := cQ_c Q1 (eCc_2 a1)
      obtain ⟨g2, x2, c2, q2, kn2, ln2, o2, r2, y2⟩ := jga_all L g1 6 0 4 (by omega)
      have hI3 : ∀ a k, a ≤ g1.2.2.2.1 → jup I2 (g1.2.2.2.1 + 1) (fun _ => nI 0) a k = I2 a k := fun a k ha => by rw [jup_n (by omega)]
      rw [x2, c_rd_77, hI3 35 8 (by omega), hI3 35 5 (by omega), Q2.2.2.1, Q2.1]
      obtain ⟨g3, I3, m1, m2, m3, m4, m5, m6, m7, m8, m9⟩ := c_copyOf (d + 22) L g2 (r := 38) (m := 120) (n := q1 35 8) (I := jup I2 (g1.2.2.2.1 + 1) (fun _ => nI 0)) (J := jup J1 (g1.2.2.2.1 + 1) (fun _ => 0)) (by omega) (by omega) rfl rfl h8 (by omega) (by omega) (by omega)
      rw [m9, jcR_some, c_rd_94]
      have I3lo : ∀ a k, a ≤ g1.2.2.2.1 → I3 a k = I2 a k := fun a k ha => by rw [m1 a (by omega)]; exact hI3 a k ha
      rw [I3lo 35 6 (by omega), Q2.2.1]
      obtain ⟨g4, I4, n1, n2, n3, n4, n5, n6, n7, n8, n9⟩ := c_copyOf2 (d + 22) L g3 (r := 37) (m := 120) (n := q1 117 42) (I := I3) (J := jup (jup J1 (g1.2.2.2.1 + 1) (fun _ => 0)) (g2.2.2.2.1 + 1) (fun _ => 0)) (by omega) (by omega) rfl rfl h42 (by omega) (by omega) (by omega)
      have kp4 : gK L g4 (g1.2.2.2.1 + 1) = 6 := (n7 _ (by omega)).1.trans ((m7 _ (by omega)).1.trans kn2)
      rw [n9, jcR_some, c_rd_105 (d + 22) L g4 (by omega) kp4]
      have I4lo : ∀ a k, a ≤ g1.2.2.2.1 → I4 a k = I2 a k := fun a k ha => by rw [n1 a (by omega)]; exact I3lo a k ha
      have R4 : ∀ a k, a ≤ g1.2.2.2.1 → g4.2.2.1 a k = g1.2.2.1 a k := fun a k ha => (n8 a k (by omega)).trans ((m8 a k (by omega)).trans (r2 a k (by omega)))
      have K4 : ∀ a, a ≤ g1.2.2.2.1 → gK L g4 a = gK L g1 a ∧ gN L g4 a = gN L g1 a := fun a ha => ⟨(n7 a (by omega)).1.trans ((m7 a (by omega)).1.trans (o2 a (by omega)).1), (n7 a (by omega)).2.trans ((m7 a (by omega)).2.trans (o2 a (by omega)).2)⟩
      have dyn : ∀ k, gR L (jgsR (jgsR (jgsR g4 (g1.2.2.2.1 + 1) 0 x) (g1.2.2.2.1 + 1) 2 (some (g2.2.2.2.1 + 1))) (g1.2.2.2.1 + 1) 3 (some (g3.2.2.2.1 + 1))) (g1.2.2.2.1 + 1) k = ju (ju (ju g4.2.2.1 (g1.2.2.2.1 + 1) 0 x) (g1.2.2.2.1 + 1) 2 (some (g2.2.2.2.1 + 1))) (g1.2.2.2.1 + 1) 3 (some (g3.2.2.2.1 + 1)) (g1.2.2.2.1 + 1) k := fun k => gR_dyn (jr0_dyn (by omega) k)
      refine ⟨jgsR (jgsR (jgsR g4 (g1.2.2.2.1 + 1) 0 x) (g1.2.2.2.1 + 1) 2 (some (g2.2.2.2.1 + 1))) (g1.2.2.2.1 + 1) 3 (some (g3.2.2.2.1 + 1)), ju I4 (g1.2.2.2.1 + 1) 1 (nI (q1 117 41)), jup (jup (jup J1 (g1.2.2.2.1 + 1) (fun _ => 0)) (g2.2.2.2.1 + 1) (fun _ => 0)) (g3.2.2.2.1 + 1) (fun _ => 0), g1.2.2.2.1 + 1, ?_, by show g4.2.2.2.1 ≤ _; omega, ⟨by show _ ≤ g4.2.2.2.2; omega, by show g4.2.2.2.2 ≤ _; omega⟩, fun _ => ⟨⟨by omega, fun y hy => ?_⟩, ?_, rfl⟩, fun h => Bool.noConfusion h⟩
      · refine ⟨fun a k ha h1 h2 h3 => ?_, fun a ha => ?_, fun a ha => ?_, fun a k ha hx => ?_, by show _ ≤ g4.2.2.2.1; omega⟩
        · rw [zu_a (by omega), I4lo a k (by omega), a1 a k (by omega)]; exact F1.1 a k ha h1 h2 h3
        · rw [jup_n (by omega), jup_n (by omega), jup_n (by omega)]; exact F1.2.1 a ha
        · exact ⟨(K4 a (by omega)).1.trans (F1.2.2.1 a ha).1, (K4 a (by omega)).2.trans (F1.2.2.1 a ha).2⟩
        · show ju (ju (ju g4.2.2.1 (g1.2.2.2.1 + 1) 0 x) (g1.2.2.2.1 + 1) 2 (some (g2.2.2.2.1 + 1))) (g1.2.2.2.1 + 1) 3 (some (g3.2.2.2.1 + 1)) a k = _
          rw [zu_a (by omega), zu_a (by omega), zu_a (by omega), R4 a k (by omega)]
          exact F1.2.2.2.1 a k ha hx
      · rw [dyn 2, dyn 3, zu_k (by omega), zu_at, zu_at] at hy
        rcases hy with e | e <;> cases e <;> omega
      · refine ⟨Or.inr (by omega), by show _ ≤ g4.2.2.2.1; omega, kp4, zu_at _ _ _ _, ⟨g2.2.2.2.1 + 1, ?_, Or.inr (by omega), by show _ ≤ g4.2.2.2.1; omega, (n7 _ (by omega)).1.trans m5, (n7 _ (by omega)).2.trans m6, fun j hj => ?_⟩, ⟨g3.2.2.2.1 + 1, ?_, Or.inr (by omega), by show _ ≤ g4.2.2.2.1; omega, n5, n6, fun j hj => ?_⟩, ?_⟩
        · rw [dyn, zu_k (by omega), zu_at]
        · rw [zu_a (by omega), n1 _ (by omega), m2 j hj, hI3 38 j (by omega)]
          exact Q2.2.2.2.2 j hj
        · rw [dyn, zu_at]
        · rw [zu_a (by omega), n2 j hj, I3lo 37 j (by omega)]
          exact Q2.2.2.2.1 j hj
        · rw [dyn, zu_k (by omega), zu_k (by omega), zu_at]
          refine nd_lo (N + 1) 0 g.2.2.2.1 170 x 0 _ h168 (nd_h (show g1.2.2.2.1 ≤ g4.2.2.2.1 by omega) (N + 1) 0 g.2.2.2.1 x 0 _ (fun n' y1 y2 => ⟨fun kk => ?_, (K4 n' y2).1, ?_, ?_, ?_⟩) nd1)
          · rw [zu_a (by omega), I4lo n' kk y2, a1 n' kk (by omega)]
          · show ju (ju (ju g4.2.2.1 (g1.2.2.2.1 + 1) 0 x) (g1.2.2.2.1 + 1) 2 (some (g2.2.2.2.1 + 1))) (g1.2.2.2.1 + 1) 3 (some (g3.2.2.2.1 + 1)) n' 4 = _
            rw [zu_a (by omega), zu_a (by omega), zu_a (by omega), R4 n' 4 y2]
          · show ju (ju (ju g4.2.2.1 (g1.2.2.2.1 + 1) 0 x) (g1.2.2.2.1 + 1) 2 (some (g2.2.2.2.1 + 1))) (g1.2.2.2.1 + 1) 3 (some (g3.2.2.2.1 + 1)) n' 5 = _
            rw [zu_a (by omega), zu_a (by omega), zu_a (by omega), R4 n' 5 y2]
          · show ju (ju (ju g4.2.2.1 (g1.2.2.2.1 + 1) 0 x) (g1.2.2.2.1 + 1) 2 (some (g2.2.2.2.1 + 1))) (g1.2.2.2.1 + 1) 3 (some (g3.2.2.2.1 + 1)) n' 6 = _
            rw [zu_a (by omega), zu_a (by omega), zu_a (by omega), R4 n' 6 y2]
    · obtain ⟨-, hv⟩ := hV_some h255
      rw [if_neg h255, jif_f (by rw [hv, show (-1 : Int32) = -nI 1 from rfl, zi_m1e (by rcases pCh_128 (c := c) (N := N) (i := i1) hc with e | e <;> omega)]; exact id), c_fail_t (d + 22) L g1 h23, jcV_some, bad _ (by rw [zu_k (by omega), zu_at])]
      refine ⟨g1, _, J1, 0, F1' _ (fun a k ha => by rw [zu_a ha, zu_a ha, a1 a k (by omega)]), by omega, ⟨by omega, by omega⟩, fun h => Bool.noConfusion h, fun _ => ⟨?_, rfl⟩⟩
      rw [zu_at]; exact a2.2.2
end MM

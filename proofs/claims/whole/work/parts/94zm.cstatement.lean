/-! THE CLASS: alarms and heads -/
set_option maxRecDepth 100000
theorem cQ_st {q : Nat → Nat → Nat} {I : Nat → Nat → Int32} (h : cQ q I) : cQ (qSt q) (ju I 35 5 (nI (q 117 41 + 1))) := by
  obtain ⟨h1, h2, h3, h4, h5⟩ := h
  have e : ∀ a k, ¬ (a = 117 ∧ k = 41) → qSt q a k = q a k := fun a k hk => qSt_r hk
  refine ⟨?_, ?_, ?_, fun k hk => ?_, fun k hk => ?_⟩
  · unfold qSt; rw [zu_at, zu_at]
  · rw [zu_k (by omega), e _ _ (by omega)]; exact h2
  · rw [zu_k (by omega), e _ _ (by omega)]; exact h3
  · rw [e _ _ (by omega)] at hk; rw [zu_a (by omega), e _ _ (by omega)]; exact h4 k hk
  · rw [e _ _ (by omega)] at hk; rw [zu_a (by omega), e _ _ (by omega)]; exact h5 k hk
section MM
variable (d L : Nat) (g : jG)
theorem c_st_19 {c : Nat → Nat} {N i : Nat} {x1 : Int32} {q : Nat → Nat → Nat} {I : Nat → Nat → Int32} {J : Nat → Nat → Int64} (hN : N ≤ 120) (hc : ∀ i, i < N → c i < 128) (hg : g.2.2.1 35 0 = some 2) (h : lG c N i I) (hq : cQ q I) : ∃ I1, eR I I1 ∧ lG c N (pSk c N i) I1 ∧ cQ (qSt q) I1 ∧ jcall (d + 2) 69 [.ref 35, .int x1] (jGs L g, I, J) = jval (d + 1) 69 19 [.ref 35, .int x1, .int (hV c N (pSk c N i)), jjunk, jjunk] [.int (oO (vO (pCh c N i)))] (jGs L g, I1, J) := by
  have h0 : lG c N i (ju I 35 5 (nI (q 117 41 + 1))) := ⟨h.1, lC_cg h.2.1 (zu_k (by omega)) (fun j => zu_a (by omega)) (zu_k (by omega)), by rw [zu_k (by omega)]; exact h.2.2⟩
  obtain ⟨I1, a1, a2, a3⟩ := c_peek d L g (J := J) hN hc hg h0.1 h0.2.1
  refine ⟨I1, fun a k hx => by rw [a1 a k (by omega), ju_ne (by omega)], ⟨(pSk_le h.1).2, a2, by rw [a1 _ _ (by omega)]; exact h0.2.2⟩, cQ_c (cQ_st hq) (eCc_2 a1), ?_⟩
  rw [c_ProgramReader_statement, e_ProgramReader_statement_0, hq.1, nI_1, a3, jcI_some, e_ProgramReader_statement_14, c_variableOf d L g hc, jcI_some]
/-- a statement that begins with a variable -/
theorem c_st_var {c : Nat → Nat} {N i v : Nat} {x1 : Int32} {q : Nat → Nat → Nat} {I : Nat → Nat → Int32} {J : Nat → Nat → Int64} (hN : N ≤ 120) (hc : ∀ i, i < N → c i < 128) (hg : g.2.2.1 35 0 = some 2) (h168 : 170 ≤ g.2.2.2.1) (hC : g.2.2.2.1 + 1 ≤ 600000) (hQ : g.2.2.2.2 + 7 ≤ 7302250) (h : lG c N i I) (hq : cQ q I) (h8 : q 35 8 ≤ i) (hv : vO (pCh c N i) = some v) : ∃ g' I' J', fN L g.2.2.2.1 0 g g' I I' J J' ∧ g'.2.2.2.1 = g.2.2.2.1 + 1 ∧ cSt c N (pVar c N v (pSk c N i + 1) (qSt q)) I' ∧ gK L g' (g.2.2.2.1 + 1) = 4 ∧ (∀ k, g'.2.2.1 (g.2.2.2.1 + 1) k = none) ∧ g'.2.2.1 0 6 = g.2.2.1 0 6 ∧ ((pVar c N v (pSk c N i + 1) (qSt q)).1 = true → nS (pVar c N v (pSk c N i + 1) (qSt q)).2.2 I' (g.2.2.2.1 + 1) (q 117 35)) ∧ jcall (d + 6) 69 [.ref 35, .int x1] (jGs L g, I, J) = some (some (.ref (g.2.2.2.1 + 1)), (jGs L g', I', J')) := by
  obtain ⟨hs1, hs2⟩ := pSk_le (c := c) h.1
  have hlt := pCh_lt (c := c) (N := N) (i := i) (by have := vO_lt hv; omega)
  obtain ⟨I1, a1, a2, a3, a4⟩ := c_st_19 (d + 4) L g (J := J) (x1 := x1) hN hc hg h hq
  have G1 : lG c N (pSk c N i + 1) (ju I1 35 2 (nI (pSk c N i + 1))) := ⟨by omega, lC_mv a2.2.1, by rw [zu_k (by omega)]; exact a2.2.2⟩
  obtain ⟨g', I', J', b1, b2, b3, b4, b5, b6, b7, b8⟩ := c_change d L g (v := v) (J := J) hN hc hg h168 hC hQ G1 (cQ_c a3 (fun a k hx => ju_ne (by omega))) (by rw [qSt_r (by omega)]; omega)
  rw [qSt_r (by omega)] at b7
  refine ⟨g', I', J', ?_, b2, b3, b4, b5, b6, b7, ?_⟩
  · exact fN_t (fN_e (fun a k _ hx => by rw [ju_ne (by omega), a1 a k hx])) b1
  · rw [a4, hv, e_ProgramReader_statement_19, jif_f (show ¬ oO (some v) < (0 : Int32) by rw [oO_lt (fun w hw => by cases hw; exact (vO_lt hv).1)]; exact fun e => by cases e), a2.2.1.2.2, nI_1]
    show jcR (jcall (d + 5) 71 [.ref 35, .int (nI v)] _) _ _ = _
    rw [b8, jcR_some, e_ProgramReader_statement_39a]
/-- a node for any other sign -/
theorem c_st_48 {c : Nat → Nat} {N i x : Nat} {x1 : Int32} {q : Nat → Nat → Nat} {I : Nat → Nat → Int32} {J : Nat → Nat → Int64} (hN : N ≤ 120) (hc : ∀ i, i < N → c i < 128) (hg : g.2.2.1 35 0 = some 2) (h168 : 170 ≤ g.2.2.2.1) (hC : g.2.2.2.1 + 1 ≤ 600000) (hQ : g.2.2.2.2 + 7 ≤ 7302250) (h : lG c N i I) (hq : cQ q I) (hx : pCh c N i = x) (hx1 : x < 128) (hv : vO x = none) : ∃ g1 I2 J2, fN L g.2.2.2.1 0 g g1 I I2 J J2 ∧ g1.2.2.2.1 = g.2.2.2.1 + 1 ∧ g1.2.2.1 35 0 = some 2 ∧ gK L g1 (g.2.2.2.1 + 1) = 4 ∧ (∀ k, g1.2.2.1 (g.2.2.2.1 + 1) k = none) ∧ g1.2.2.1 0 6 = g.2.2.1 0 6 ∧ lG c N (pSk c N i) I2 ∧ cQ (qSt q) I2 ∧ I2 (g.2.2.2.1 + 1) 0 = nI x ∧ jcall (d + 2) 69 [.ref 35, .int x1] (jGs L g, I, J) = jval (d + 1) 69 48 [.ref 35, .int x1, .int (nI x), jjunk, jjunk] [.ref (g.2.2.2.1 + 1)] (jGs L g1, I2, J2) := by
  obtain ⟨I1, a1, a2, a3, a4⟩ := c_st_19 d L g (J := J) (x1 := x1) hN hc hg h hq
  obtain ⟨-, hv1⟩ := hV_some (c := c) (N := N) (i := i) (by omega)
  obtain ⟨g1, y1, c1, q1, kn1, ln1, o1, r1, z1⟩ := jga_all L g 4 0 7 h168
  have hI : ∀ a k, a ≤ 168 → ju (jup I1 (g.2.2.2.1 + 1) (fun _ => nI 0)) (g.2.2.2.1 + 1) 0 (nI x) a k = I1 a k := fun a k ha => by rw [zu_a (by omega), jup_n (by omega)]
  refine ⟨g1, ju (jup I1 (g.2.2.2.1 + 1) (fun _ => nI 0)) (g.2.2.2.1 + 1) 0 (nI x), jup J (g.2.2.2.1 + 1) (fun _ => 0), ⟨fun a k ha hx => ?_, fun a ha => jup_n (by omega), fun a ha => o1 a (by omega), fun a k ha _ => r1 a k (by omega), by omega, by omega⟩, c1, (r1 35 0 (by omega)).trans hg, kn1, z1, r1 0 6 (by omega), lG_n a2 hI, cQ_n a3 hI, zu_at _ _ _ _, ?_⟩
  · rw [zu_a (by omega), jup_n (by omega), a1 a k hx]
  · rw [a4, hx, hv, hv1, hx, e_ProgramReader_statement_19, jif_t (show oO none < (0 : Int32) by decide), jrm_t hC hQ, cond_true, y1, e_ProgramReader_statement_43, c_Node_init, e_Node_init_0, if_pos kn1, jcV_some]
theorem c_noteAlarm {n p a : Nat} {I : Nat → Nat → Int32} {J : Nat → Nat → Int64} (hn : 171 ≤ n) (kn : (jGs L g).1 n = 4) (h6 : I 35 6 = nI a) (h2 : I 35 2 = nI p) (ha : a < 120) : jcall (d + 1) 70 [.ref 35, .ref n] (jGs L g, I, J) = some (none, (jGs L g, ju (ju (ju I n 3 (nI a)) 37 a (nI p)) 35 6 (nI (a + 1)), J)) := by
  have e6 : ju I n 3 (nI a) 35 6 = nI a := by rw [zu_a (by omega)]; exact h6
  have e2 : ju I n 3 (nI a) 35 2 = nI p := by rw [zu_a (by omega)]; exact h2
  rw [c_ProgramReader_noteAlarm, e_ProgramReader_noteAlarm_0, if_pos kn, h6, e6, e2, show Int32.ofNat 120 = nI 120 from rfl, jif_f (nI_ge (by omega) (by omega)), jin_nI (by omega) (by omega), nI_c (by omega), cond_true, e_ProgramReader_noteAlarm_43, zu_a (show (35 : Nat) ≠ 37 by omega), e6, nI_1]
/-- variable and digit, then what comes: sign, braces -/
theorem c_st_90 {c : Nat → Nat} {N i n : Nat} {x1 x2 : Int32} {I : Nat → Nat → Int32} {J : Nat → Nat → Int64} (hN : N ≤ 120) (hc : ∀ i, i < N → c i < 128) (hg : g.2.2.1 35 0 = some 2) (hn : 171 ≤ n) (kn : (jGs L g).1 n = 4) (h : lG c N i I) : ∃ I', (∀ a k, ¬ (a = n ∧ (k = 1 ∨ k = 2)) → ¬ (a = 35 ∧ (k = 2 ∨ k = 3 ∨ k = 4)) → I' a k = I a k) ∧ (match nO 0 (pCh c N i) with
    | none => fF c N (pSk c N i) I'
    | some v => (match nO 1 (pCh c N (pSk c N i + 1)) with
      | none => fF c N (pSk c N (pSk c N i + 1)) I'
      | some w => lG c N (pSk c N (pSk c N i + 1) + 1) I' ∧ I' n 1 = nI v ∧ I' n 2 = nI w)) ∧ jval (d + 2) 69 90 [.ref 35, .int x1, .int x2, jjunk, .ref n] [] (jGs L g, I, J) = jval (d + 2) 69 108 [.ref 35, .int x1, .int x2, jjunk, .ref n] [] (jGs L g, I', J) := by
  have tail : ∀ p w I1, fF c N p I1 → ∃ I', (∀ a k, ¬ (a = n ∧ (k = 1 ∨ k = 2)) → ¬ (a = 35 ∧ (k = 2 ∨ k = 3 ∨ k = 4)) → I' a k = I1 a k) ∧ fF c N p I' ∧ jval (d + 2) 69 96 [.ref 35, .int x1, .int x2, jjunk, .ref n] [.int w, .ref n] (jGs L g, I1, J) = jval (d + 2) 69 108 [.ref 35, .int x1, .int x2, jjunk, .ref n] [] (jGs L g, I', J) := by
    intro p w I1 h1
    obtain ⟨I2, w2, b1, b2, b3⟩ := c_digit_f d L g (J := J) hN hc hg (fF_n h1 (I' := ju I1 n 1 w) (fun a k ha => zu_a (by omega)))
    refine ⟨ju I2 n 2 w2, fun a k hx hy => ?_, fF_n b2 (fun a k ha => zu_a (by omega)), ?_⟩
    · rw [ju_ne (by omega), b1 a k hy, ju_ne (by omega)]
    · rw [e_ProgramReader_statement_96, if_pos kn, b3, jcI_some, e_ProgramReader_statement_105, if_pos kn]
  cases h1 : nO 0 (pCh c N i) with
  | none =>
    obtain ⟨I1, a1, a2, a3⟩ := c_variable_n d L g (J := J) hN hc hg h h1
    obtain ⟨I2, b1, b2, b3⟩ := tail _ (nI 0) I1 a2
    refine ⟨I2, fun a k hx hy => by rw [b1 a k hx hy, a1 a k hy], b2, ?_⟩
    rw [e_ProgramReader_statement_90, a3, jcI_some, b3]
  | some v =>
    obtain ⟨I1, a1, a2, a3⟩ := c_variable_t d L g (J := J) hN hc hg h h1
    have G2 := lG_n a2 (I' := ju I1 n 1 (nI v)) (fun a k ha => zu_a (by omega))
    show ∃ I', _ ∧ (match nO 1 (pCh c N (pSk c N i + 1)) with
      | none => fF c N (pSk c N (pSk c N i + 1)) I'
      | some w => lG c N (pSk c N (pSk c N i + 1) + 1) I' ∧ I' n 1 = nI v ∧ I' n 2 = nI w) ∧ _
    cases h2 : nO 1 (pCh c N (pSk c N i + 1)) with
    | none =>
      obtain ⟨I2, b1, b2, b3⟩ := c_digit_n d L g (J := J) hN hc hg G2 h2
      refine ⟨ju I2 n 2 (nI 0), fun a k hx hy => ?_, fF_n b2 (fun a k ha => zu_a (by omega)), ?_⟩
      · rw [ju_ne (by omega), b1 a k hy, ju_ne (by omega), a1 a k hy]
      · rw [e_ProgramReader_statement_90, a3, jcI_some, e_ProgramReader_statement_96, if_pos kn, b3, jcI_some, e_ProgramReader_statement_105, if_pos kn]
    | some w =>
      obtain ⟨I2, b1, b2, b3⟩ := c_digit_t d L g (J := J) hN hc hg G2 h2
      refine ⟨ju I2 n 2 (nI w), fun a k hx hy => ?_, ⟨lG_n b2 (fun a k ha => zu_a (by omega)), ?_, zu_at _ _ _ _⟩, ?_⟩
      · rw [ju_ne (by omega), b1 a k hy, ju_ne (by omega), a1 a k hy]
      · rw [zu_k (by omega), b1 _ _ (by omega), zu_at]
      · rw [e_ProgramReader_statement_90, a3, jcI_some, e_ProgramReader_statement_96, if_pos kn, b3, jcI_some, e_ProgramReader_statement_105, if_pos kn]
end MM

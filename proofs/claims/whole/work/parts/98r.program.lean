/-! TOP: program -/
set_option maxRecDepth 100000
theorem cI_G {L : Nat} {T : zT} {su sr : Nat} {sa : Nat → Nat} {PC PQ dc dq : Nat} {g g' : jG} {I I' : Nat → Nat → Int32} {J J' : Nat → Nat → Int64} (h : cI L T su sr sa PC PQ g I J) (hK : ∀ a, a ≤ g.2.2.2.1 → gK L g' a = gK L g a ∧ gN L g' a = gN L g a) (hR : ∀ a k, a ≤ g.2.2.2.1 → (okS a ∨ a = 19 ∨ a = 39 ∨ a = 1 ∨ a = 12) → g'.2.2.1 a k = g.2.2.1 a k) (hC : g'.2.2.2.1 = g.2.2.2.1 + dc) (hQ : g'.2.2.2.2 = g.2.2.2.2 + dq) (h1 : PC + dc ≤ 600000) (h2 : PQ + dq ≤ 7302250) (hS : ∀ a, a ≤ g.2.2.2.1 → ¬ (14 ≤ a ∧ a ≤ 18) → ¬ (30 ≤ a ∧ a ≤ 38) → I' a = I a ∧ J' a = J a) : cI L T su sr sa (PC + dc) (PQ + dq) g' I' J' := by
  obtain ⟨⟨t1, t2⟩, ⟨t3, t4, t5⟩, hA, ⟨h6, h7⟩, ⟨h8, h9⟩, h10, h11⟩ := h
  obtain ⟨⟨m1, m2⟩, m3, m4, m5, m6, m7, m8⟩ := id hA
  have h168 := mkI_C m1
  have e : ∀ a, a < 171 → ¬ (14 ≤ a ∧ a ≤ 18) → ¬ (30 ≤ a ∧ a ≤ 38) → I' a = I a := fun a ha h1 h2 => (hS a (by omega) h1 h2).1
  have R : ∀ a k, a ≤ g.2.2.2.1 → (okS a ∨ a = 19 ∨ a = 39) → g'.2.2.1 a k = g.2.2.1 a k := fun a k ha hx => hR a k ha (hx.imp id (fun e => by omega))
  have S : ∀ z s, cSz L z s sr g I J → cSz L z s sr g' I' J' := fun z s hs => cSz_B hs m1 m4 hK R (by omega) (fun a hc ha => hS a hc (by unfold okS at ha; omega) (by unfold okS at ha; omega))
  exact ⟨⟨by rw [e 1 (by omega) (by omega) (by omega)]; exact t1, fun i hi => by rw [e 2 (by omega) (by omega) (by omega)]; exact t2 i hi⟩, ⟨by rw [e 1 (by omega) (by omega) (by omega)]; exact t3, by rw [e 1 (by omega) (by omega) (by omega)]; exact t4, by rw [e 1 (by omega) (by omega) (by omega)]; exact t5⟩, cA_B hA hK R hC hQ h1 h2 (fun a ha hm => (hS a ha (fun hx => m2 a (by omega) (by omega) hm) (fun hx => m2 a (by omega) (by omega) hm)).1), ⟨by rw [hR 1 2 (by omega) (by omega)]; exact h6, S _ _ h7⟩, ⟨by rw [e 1 (by omega) (by omega) (by omega)]; exact h8, fun i hi => ⟨by rw [hR 12 i (by omega) (by omega)]; exact (h9 i hi).1, S _ _ (h9 i hi).2.1, (h9 i hi).2.2⟩⟩, uT_cg h10 (fun j => by rw [e 116 (by omega) (by omega) (by omega)]) (fun j => by rw [e 115 (by omega) (by omega) (by omega)]), by rw [e 111 (by omega) (by omega) (by omega)]; exact h11⟩
theorem c_withQ (d L : Nat) (g : jG) {T : zT} {su sr p M' : Nat} {c' : Nat → Nat} {sa : Nat → Nat} {PC PQ : Nat} {I : Nat → Nat → Int32} {J : Nat → Nat → Int64} (h : cI L T su sr sa PC PQ g I J) (hq : gQ L (pPrg c' M').2.2 p sr (M' + 1) g I) (h1 : PC + 1 ≤ 600000) (h2 : PQ + 4 ≤ 7302250) : ∃ g' I' J', cI L T su sr sa (PC + 1) (PQ + 4) g' I' J' ∧ cSz L (T.2.2.2.1.1, c', M', T.2.2.2.1.2.2.2.1, T.2.2.2.1.2.2.2.2) (g.2.2.2.1 + 1) sr g' I' J' ∧ su < g.2.2.2.1 + 1 ∧ (∀ a, a ≤ g.2.2.2.1 → I' a = I a ∧ J' a = J a ∧ gK L g' a = gK L g a) ∧ jcall (d + 2) 105 [.ref su, .ref p] (jGs L g, I, J) = some (some (.ref (g.2.2.2.1 + 1)), (jGs L g', I', J')) := by
  have hC := mkI_C h.2.2.1.1.1
  obtain ⟨c1, c2, c3, c4, c5, -⟩ := id h.2.2.2.1.2.1
  obtain ⟨⟨pr, p1, p2⟩, -⟩ := cSu_pq h.2.2.2.1.2.1
  obtain ⟨g', I', J', a1, a2, a3, a4, a5, a6⟩ := c_mkS d L g (z' := (T.2.2.2.1.1, c', M', T.2.2.2.1.2.2.2.1, T.2.2.2.1.2.2.2.2)) h p2 hq h1 h2
  refine ⟨g', I', J', a1, a2, a3, a4, ?_⟩
  have ks : (jGs L (jga g 9 0 4)).1 su = 9 := (gK_old (kd := 9) (ln := 0) (n := 4) (by omega)).trans c3
  rw [c_Setup_withProgram, e_Setup_withProgram_0, a5, cond_true, jal_G hC, e_Setup_withProgram_3, if_pos ks, show (jGs L (jga g 9 0 4)).2.2.1 su 0 = some pr from (gR_cg (jga_R (by omega))).trans p1, jo_some, if_pos ks, if_pos ks, show jup I (g.2.2.2.1 + 1) (fun _ => 0) su 2 = nI T.2.2.2.1.2.2.2.1 from by rw [jup_n (by omega)]; exact c4, show jup I (g.2.2.2.1 + 1) (fun _ => 0) su 3 = nI T.2.2.2.1.2.2.2.2 from by rw [jup_n (by omega)]; exact c5, a6, jcV_some, e_Setup_withProgram_20]
/-- the program is told again from its text -/
theorem r_ta (d L : Nat) (g : jG) {J : Nat → Nat → Int64} {N : Nat} {c : Nat → Nat} (hN : N ≤ 120) : ∀ f i (I : Nat → Nat → Int32), i + f = N → I 117 87 = nI N → (∀ j, j < N → I 167 j = nI (c j)) → (∀ j, j < i → I 148 j = nI (c j)) → ∃ I', (∀ a j, a ≠ 148 → ¬ (a = 117 ∧ j = 52) → I' a j = I a j) ∧ I' 117 52 = nI N ∧ (∀ j, j < N → I' 148 j = nI (c j)) ∧ jval d 252 2 [.ref 117, .int (nI i)] [] (jGs L g, I, J) = jcI (jcall d 212 [.ref 117] (jGs L g, I', J)) (fun r2 S1 => jval d 252 41 [.ref 117, jjunk] [.int r2, .ref 117] S1) := by
  intro f
  induction f with
  | zero =>
    intro i I hi h1 h2 h3
    refine ⟨ju I 117 52 (I 117 87), fun a j _ hj => ju_ne (by omega), by rw [zu_at]; exact h1, fun j hj => by rw [zu_a (by omega)]; exact h3 j (by omega), ?_⟩
    rw [e_TextValuesModel_tellsAgain_2, h1, jif_t (nI_le (by omega) (by omega))]
  | succ f ih =>
    intro i I hi h1 h2 h3
    obtain ⟨I', k1, k2, k3, k4⟩ := ih (i + 1) (ju I 148 i (I 167 i)) (by omega) (by rw [zu_a (by omega)]; exact h1) (fun j hj => by rw [zu_a (by omega)]; exact h2 j hj) (fun j hj => by
      by_cases e : j = i
      · rw [e, zu_at]; exact h2 i (by omega)
      · rw [zu_k e]; exact h3 j (by omega))
    refine ⟨I', fun a j y1 y2 => by rw [k1 a j y1 y2, zu_a y1], k2, k3, ?_⟩
    rw [e_TextValuesModel_tellsAgain_2, h1, jif_f (nI_ge (by omega) (by omega)), jin_nI (by omega) (by omega), cond_true, cond_true, nI_c (by omega), nI_1]
    exact k4
theorem r_tells (d L : Nat) (g : jG) {J : Nat → Nat → Int64} {N : Nat} {c : Nat → Nat} {I : Nat → Nat → Int32} (hN : N ≤ 120) (hc : ∀ i, i < N → c i < 128) (h1 : I 117 87 = nI N) (h2 : ∀ j, j < N → I 167 j = nI (c j)) (ht : (pPrg c N).1 = true) : ∃ I', rQ (pPrg c N).2.2 I' ∧ I' 117 60 = 0 ∧ (∀ a j, ¬ qX1 a j → a ≠ 148 → ¬ (a = 117 ∧ (j = 52 ∨ j = 60)) → I' a j = I a j) ∧ jcall (d + 9) 252 [.ref 117] (jGs L g, I, J) = some (none, (jGs L g, I', J)) := by
  obtain ⟨I1, k1, k2, k3, k4⟩ := r_ta (d + 8) L g (J := J) hN N 0 I (by omega) h1 h2 (fun j hj => by omega)
  rcases r_readsProgram d L g (J := J) hN hc k2 k3 with ⟨i', q', I2, a1, a2, a3, a4, a5⟩ | ⟨p, q', I2, a1, -⟩
  · rw [a1]
    refine ⟨ju I2 117 60 0, rQ_x a3 (fun a j hj => ju_ne (by omega)), zu_at _ _ _ _, fun a j y1 y2 y3 => by rw [ju_ne (by omega), a2 a j y1, k1 a j y2 (by omega)], ?_⟩
    rw [c_TextValuesModel_tellsAgain, e_TextValuesModel_tellsAgain_0, show (0 : Int32) = nI 0 from rfl, k4, a5, jcI_some, e_TextValuesModel_tellsAgain_41, jif_f (by decide), e_TextValuesModel_tellsAgain_55, e_TextValuesModel_tellsAgain_56, jif_t (Or.inl rfl)]; rfl
  · rw [a1] at ht; cases ht
theorem rI_q {T : zT} {I I' : Nat → Nat → Int32} (h : rI T I) (hw : zWf T) (hq : rQ (zq T.2.2.2.1) I') (he : ∀ a j, iX a j → a ≠ 120 → ¬ (138 ≤ a ∧ a ≤ 146) → ¬ (a = 117 ∧ (j = 35 ∨ j = 41 ∨ j = 42 ∨ j = 44 ∨ j = 48)) → I' a j = I a j) (h0 : ∀ y, y < 10240 → I' 125 y = 0) : rI T I' := by
  obtain ⟨⟨h1, h2⟩, h3, ⟨b1, b2, b3, b4, b5, b6⟩, ⟨h5, h6⟩, h7, ⟨h8, h9⟩, h10, h11⟩ := h
  have e : ∀ a j, iX a j → a ≠ 120 ∧ ¬ (138 ≤ a ∧ a ≤ 146) ∧ ¬ (a = 117 ∧ (j = 35 ∨ j = 41 ∨ j = 42 ∨ j = 44 ∨ j = 48)) → I' a j = I a j := fun a j y1 y2 => he a j y1 y2.1 y2.2.1 y2.2.2
  refine ⟨⟨by rw [e _ _ (by unfold iX; omega) (by omega)]; exact h1, fun i hi => by rw [e _ _ (by unfold iX; omega) (by omega)]; exact h2 i hi⟩, fun j hj => by rw [e _ _ (by unfold iX; omega) (by omega)]; exact h3 j hj, ⟨hq, fun i hi => ⟨mR_cg (b2 i hi).1 (fun c hc => e _ _ (by unfold iX; omega) (by omega)), (b2 i hi).2⟩, h0, by rw [e _ _ (by unfold iX; omega) (by omega)]; exact b4, by rw [e _ _ (by unfold iX; omega) (by omega)]; exact b5, b6⟩, ⟨by rw [e _ _ (by unfold iX; omega) (by omega)]; exact h5, fun i hi => by rw [e _ _ (by unfold iX; omega) (by omega)]; exact h6 i hi⟩, ?_, ⟨by rw [e _ _ (by unfold iX; omega) (by omega)]; exact h8, fun i hi => rK_x (h9 i hi) (hw.2.2.2.1 i hi).2.1.1 (fun j _ _ => e _ _ (by unfold iX; omega) (by omega))⟩, uT_cg h10 (fun j => e _ _ (by unfold iX; omega) (by omega)) (fun j => e _ _ (by unfold iX; omega) (by omega)), by rw [e _ _ (by unfold iX; omega) (by omega)]; exact h11⟩
  rcases h7 with e0 | ⟨e1, e2, e3⟩
  · exact Or.inl (by rw [e _ _ (by unfold iX; omega) (by omega)]; exact e0)
  · exact Or.inr ⟨by rw [e _ _ (by unfold iX; omega) (by omega)]; exact e1, rSt_cg e2 (e _ _ (by unfold iX; omega) (by omega)) (fun v hv c hc => e _ _ (by unfold iX; omega) (by omega)), rG_x e3 (fun j hj => e _ _ (by unfold iX; omega) (by omega)) (fun j => e _ _ (by unfold iX; omega) (by omega)) (fun j => e _ _ (by unfold iX; omega) (by omega))⟩
/-- the program's text is kept -/
theorem r_p41 (d L : Nat) (g : jG) {J : Nat → Nat → Int64} {N : Nat} {c : Nat → Nat} (hN : N ≤ 120) : ∀ f i (I : Nat → Nat → Int32), i + f = N → I 117 50 = nI N → (∀ j, j < N → I 147 j = nI (c j)) → (∀ j, j < i → I 167 j = nI (c j)) → ∃ I', (∀ a j, a ≠ 167 → ¬ (a = 117 ∧ j = 87) → I' a j = I a j) ∧ I' 117 87 = nI N ∧ (∀ j, j < N → I' 167 j = nI (c j)) ∧ jval d 258 41 [.ref 117, .int (nI i), jjunk] [] (jGs L g, I, J) = some (some (.int (I 117 41)), (jGs L g, I', J)) := by
  intro f
  induction f with
  | zero =>
    intro i I hi h1 h2 h3
    refine ⟨ju I 117 87 (I 117 50), fun a j _ hj => ju_ne (by omega), by rw [zu_at]; exact h1, fun j hj => by rw [zu_a (by omega)]; exact h3 j (by omega), ?_⟩
    rw [e_TextValuesModel_program_41, h1, jif_t (nI_le (by omega) (by omega))]
  | succ f ih =>
    intro i I hi h1 h2 h3
    obtain ⟨I', k1, k2, k3, k4⟩ := ih (i + 1) (ju I 167 i (I 147 i)) (by omega) (by rw [zu_a (by omega)]; exact h1) (fun j hj => by rw [zu_a (by omega)]; exact h2 j hj) (fun j hj => by
      by_cases e : j = i
      · rw [e, zu_at]; exact h2 i (by omega)
      · rw [zu_k e]; exact h3 j (by omega))
    refine ⟨I', fun a j y1 y2 => by rw [k1 a j y1 y2, zu_a y1], k2, k3, ?_⟩
    rw [zu_a (by omega)] at k4
    rw [e_TextValuesModel_program_41, h1, jif_f (nI_ge (by omega) (by omega)), jin_nI (by omega) (by omega), cond_true, cond_true, nI_c (by omega), nI_1]
    exact k4

/-! TOP: runs; a setup left -/
set_option maxRecDepth 100000
theorem cSz_B {L : Nat} {z : zS} {s sr PC PQ : Nat} {g g' : jG} {I I' : Nat → Nat → Int32} {J J' : Nat → Nat → Int64} (h : cSz L z s sr g I J) (hI : mkI L g I PC PQ) (hsr : sr ≤ g.2.2.2.1) (hK : ∀ a, a ≤ g.2.2.2.1 → gK L g' a = gK L g a ∧ gN L g' a = gN L g a) (hR : ∀ a k, a ≤ g.2.2.2.1 → (okS a ∨ a = 19 ∨ a = 39) → g'.2.2.1 a k = g.2.2.1 a k) (hC : g.2.2.2.1 ≤ g'.2.2.2.1) (hS : ∀ a, a ≤ g.2.2.2.1 → (okS a ∨ a = 39 ∨ (40 ≤ a ∧ a ≤ 45) ∨ a = 49 ∨ a = sr) → I' a = I a ∧ J' a = J a) : cSz L z s sr g' I' J' := by
  have h168 := mkI_C hI
  refine ⟨cSu_s h.1 hC (fun a ha hc _ => ⟨(hS a hc (Or.inl ha)).1, (hS a hc (Or.inl ha)).2, (hK a hc).1, (hK a hc).2, fun j => hR a j hc (Or.inl ha), fun hx => ⟨fun hm => hx.1 ((mkO_eq (fun k => hR 19 k (by omega) (by omega)) a).mp hm), hx.2⟩⟩), fun hx => ?_, fun a ha => by rw [hR 39 2 (by omega) (by omega)] at ha; exact Nat.le_trans (h.2.2 a ha) hC⟩
  rw [hR 39 2 (by omega) (by omega)] at hx
  obtain ⟨h1, h2, h3⟩ := h.2.1 hx
  refine ⟨?_, cG_e h2 ⟨(hS 39 (by omega) (by omega)).1, (hS 49 (by omega) (by omega)).1, (hS sr hsr (by omega)).1⟩, by rw [(hK sr hsr).2]; exact h3⟩
  obtain ⟨V, y1, y2⟩ := h1
  exact ⟨V, fun v hv => cR_cg L g (y1 v hv) (hK _ (by omega)).1 (hS _ (by omega) (by omega)).1 (hS _ (by omega) (by omega)).2, by rw [(hS 40 (by omega) (by omega)).1]; exact y2⟩
theorem cA_B {L sr PC PQ dc dq : Nat} {g g' : jG} {I I' : Nat → Nat → Int32} (h : cA L sr PC PQ g I) (hK : ∀ a, a ≤ g.2.2.2.1 → gK L g' a = gK L g a ∧ gN L g' a = gN L g a) (hR : ∀ a k, a ≤ g.2.2.2.1 → (okS a ∨ a = 19 ∨ a = 39) → g'.2.2.1 a k = g.2.2.1 a k) (hC : g'.2.2.2.1 = g.2.2.2.1 + dc) (hQ : g'.2.2.2.2 = g.2.2.2.2 + dq) (h1 : PC + dc ≤ 600000) (h2 : PQ + dq ≤ 7302250) (hS : ∀ a, a ≤ g.2.2.2.1 → mkO g a → I' a = I a) : cA L sr (PC + dc) (PQ + dq) g' I' := by
  obtain ⟨⟨m1, m2⟩, m3, m4, m5, m6, m7, m8⟩ := h
  have h168 := mkI_C m1
  have O := mkO_eq (g := g) (g' := g') (fun k => hR 19 k (by omega) (by omega))
  exact ⟨⟨mkI_T m1 (fun a ha => hS a (mkO_C m1 ha) ha) hK (fun k => hR 19 k (by omega) (by omega)) hC hQ h1 h2, fun a ha hb hm => m2 a ha hb ((O a).mp hm)⟩, by rw [hR 39 10 (by omega) (by omega)]; exact m3, by omega, by rw [(hK sr m4).1]; exact m5, fun hm => m6 ((O sr).mp hm), m7, by rw [(hK sr m4).2]; exact m8⟩
theorem cI_U {L : Nat} {T : zT} {su sr : Nat} {sa : Nat → Nat} {PC PQ rg' : Nat} {V' : Nat → List Nat} {g g' : jG} {I I' : Nat → Nat → Int32} {J J' : Nat → Nat → Int64} (h : cI L T su sr sa PC PQ g I J) (hK : ∀ a, gK L g' a = gK L g a ∧ gN L g' a = gN L g a) (hR : ∀ a k, ¬ (a = 111 ∧ k = 1) → g'.2.2.1 a k = g.2.2.1 a k) (hC : g'.2.2.2 = g.2.2.2) (hS : ∀ a, ¬ (a = 14 ∨ a = 15 ∨ (111 ≤ a ∧ a ≤ 116)) → I' a = I a ∧ J' a = J a) (hu : uT V' 116 115 I') (hg : I' 111 12 = nI rg') : cI L (T.1, T.2.1, T.2.2.1, T.2.2.2.1, T.2.2.2.2.1, T.2.2.2.2.2.1, V', rg') su sr sa PC PQ g' I' J' := by
  have rm := cI_room h
  obtain ⟨⟨t1, t2⟩, ⟨t3, t4, t5⟩, hA, ⟨h6, h7⟩, ⟨h8, h9⟩, h10, h11⟩ := h
  obtain ⟨⟨m1, m2⟩, m3, m4, m5, m6, m7, m8⟩ := id hA
  have h168 := mkI_C m1
  have R : ∀ a k, a ≤ g.2.2.2.1 → (okS a ∨ a = 19 ∨ a = 39) → g'.2.2.1 a k = g.2.2.1 a k := fun a k _ ha => hR a k (by unfold okS at ha; omega)
  have S : ∀ z s, cSz L z s sr g I J → cSz L z s sr g' I' J' := fun z s hs => cSz_B hs m1 m4 (fun a _ => hK a) R (by rw [hC]; exact Nat.le_refl _) (fun a _ ha => hS a (by unfold okS at ha; omega))
  refine ⟨⟨by rw [(hS 1 (by omega)).1]; exact t1, fun i hi => by rw [(hS 2 (by omega)).1]; exact t2 i hi⟩, ⟨by rw [(hS 1 (by omega)).1]; exact t3, by rw [(hS 1 (by omega)).1]; exact t4, by rw [(hS 1 (by omega)).1]; exact t5⟩, cA_B (dc := 0) (dq := 0) hA (fun a _ => hK a) R (by rw [hC]; rfl) (by rw [hC]; rfl) rm.1 rm.2 (fun a ha hm => (hS a (fun hx => m2 a (by omega) (by omega) hm)).1), ⟨by rw [hR 1 2 (by omega)]; exact h6, S _ _ h7⟩, ⟨by rw [(hS 1 (by omega)).1]; exact h8, fun i hi => ⟨by rw [hR 12 i (by omega)]; exact (h9 i hi).1, S _ _ (h9 i hi).2.1, (h9 i hi).2.2⟩⟩, hu, hg⟩
theorem rI_U {T : zT} {V' : Nat → List Nat} {rg' : Nat} {I I' : Nat → Nat → Int32} (h : rI T I) (hw : zWf T) (he : ∀ a j, iX a j → a ≠ 158 → a ≠ 159 → ¬ (a = 117 ∧ j = 78) → I' a j = I a j) (h0 : ∀ y, y < 10240 → I' 125 y = 0) (hu : uT V' 159 158 I') (hg : I' 117 78 = nI rg') : rI (T.1, T.2.1, T.2.2.1, T.2.2.2.1, T.2.2.2.2.1, T.2.2.2.2.2.1, V', rg') I' := by
  obtain ⟨⟨h1, h2⟩, h3, h4, ⟨h5, h6⟩, h7, ⟨h8, h9⟩, h10, h11⟩ := h
  refine ⟨⟨by rw [he _ _ (by unfold iX; omega) (by omega) (by omega) (by omega)]; exact h1, fun i hi => by rw [he _ _ (by unfold iX; omega) (by omega) (by omega) (by omega)]; exact h2 i hi⟩, fun j hj => by rw [he _ _ (by unfold iX; omega) (by omega) (by omega) (by omega)]; exact h3 j hj, rB_x h4 (fun a j hx => he a j (by unfold iX; omega) (by omega) (by omega) (by omega)) h0, ⟨by rw [he _ _ (by unfold iX; omega) (by omega) (by omega) (by omega)]; exact h5, fun i hi => by rw [he _ _ (by unfold iX; omega) (by omega) (by omega) (by omega)]; exact h6 i hi⟩, ?_, ⟨by rw [he _ _ (by unfold iX; omega) (by omega) (by omega) (by omega)]; exact h8, fun i hi => rK_x (h9 i hi) (hw.2.2.2.1 i hi).2.1.1 (fun j _ _ => he _ _ (by unfold iX; omega) (by omega) (by omega) (by omega))⟩, hu, hg⟩
  rcases h7 with e | ⟨e1, e2, e3⟩
  · exact Or.inl (by rw [he _ _ (by unfold iX; omega) (by omega) (by omega) (by omega)]; exact e)
  · exact Or.inr ⟨by rw [he _ _ (by unfold iX; omega) (by omega) (by omega) (by omega)]; exact e1, rSt_cg e2 (he _ _ (by unfold iX; omega) (by omega) (by omega) (by omega)) (fun v hv c hc => he _ _ (by unfold iX; omega) (by omega) (by omega) (by omega)), rG_x e3 (fun j hj => he _ _ (by unfold iX; omega) (by omega) (by omega) (by omega)) (fun j => he _ _ (by unfold iX; omega) (by omega) (by omega) (by omega)) (fun j => he _ _ (by unfold iX; omega) (by omega) (by omega) (by omega))⟩
theorem ok_runs (x : Int32) : okV false 140 239 [.int x] := by
  intro L T su sr sa PC PQ g I J h hw h1 h2
  rcases ix_b x (n := 1000000) (by omega) (by omega) with ⟨j, hj, e, hb⟩ | ⟨hx, hb⟩
  · subst e
    obtain ⟨w1, w2, w3, L0, g0, I0, B0, lo, y0, wn⟩ := hw.2.1
    have ec : jcall 40 140 [.ref 1, .int (nI j)] (jGs L g, I, J) = jcI (jcall 39 88 [.ref 111, .ref su, .int (nI j)] (jGs L g, I, J)) (fun r5 S4 => jval 39 140 29 [jjunk, jjunk] [.int r5] S4) := by
      rw [c_TextValues_runs, e_TextValues_runs_0, jif_f (nI_pos (by omega)), jif_t (show nI j ≤ (999999 : Int32) from nI_le (b := 999999) (by omega) (by omega)), h.2.2.2.1.1, jo_some]
    have er : ∀ g I J, rI T I → jcall 40 239 [.ref 117, .int (nI j)] (jGs L g, I, J) = jval 39 239 8 [.ref 117, .int (nI j), jjunk, jjunk, jjunk] [.int (1 : Int32)] (jGs L g, I, J) ∧ rD (zq T.2.2.2.1) T.2.2.2.1.1 I := by
      intro g I J hr
      refine ⟨?_, hr.2.2.1.1, hr.2.2.1.2.1, w3.2.2.1, fun i hi => (w1 i hi).2⟩
      rw [c_TextValuesModel_runs, e_TextValuesModel_runs_0, s_in 38 L g I J, show (999999 : Int32) = nI (1000000 - 1) from rfl, hb, jcI_some]; rfl
    obtain ⟨I1, J1, a1, a2, a3⟩ := c_start 18 L g (I := I) (J := J) (x := j) h.2.2.2.1.2.1 w3.2.2.1 w3.2.2.2 (fun i hi => (w1 i hi).2) (by omega)
    have G : ∀ a k, ¬ (a = 111 ∧ k = 1) → (jgsR g 111 1 (some su)).2.2.1 a k = g.2.2.1 a k := fun a k hk => by
      show ju g.2.2.1 111 1 (some su) a k = _
      rw [ju_ne (by omega)]
    have F1 : ∀ a, ¬ (a = 14 ∨ a = 15 ∨ (111 ≤ a ∧ a ≤ 116)) → I1 a = I a ∧ J1 a = J a := fun a ha => ⟨funext (fun k => a1 a k (by unfold wX; omega) (by omega) (by omega) (by omega)), a2 a (by omega)⟩
    have OC : oC I I1 := fun a y1 y2 => (F1 a (by omega)).1
    rcases a3 with ⟨s, s1, s2, s3, s4, s5, s6⟩ | ⟨s1, s2, s6⟩
    · refine ⟨.int (nI s.2.1), (T.1, T.2.1, T.2.2.1, T.2.2.2.1, T.2.2.2.2.1, T.2.2.2.2.2.1, s.2.2.2, s.2.2.1), ⟨_, rfl⟩, ⟨hw.1, hw.2.1, hw.2.2.1, hw.2.2.2.1, s3⟩, ⟨su, sr, sa, PC, PQ, jgsR g 111 1 (some su), I1, J1, cI_U h (fun a => ⟨rfl, rfl⟩) G rfl F1 s4 s5, by omega, by omega, OC, by rw [ec, s6, jcI_some, e_TextValues_runs_29]⟩, fun g I J hr => ?_⟩
      obtain ⟨r1, r2⟩ := er g I J hr
      obtain ⟨I2, J2, b1, b2, b3⟩ := r_runs 30 L g (J := J) (x := j) wn r2 (by omega)
      rcases b3 with ⟨t, t1, t2, t3, t4, t5, t6⟩ | ⟨t1, -⟩
      · rw [s1] at t1
        cases t1
        refine ⟨I2, J2, rI_U hr hw (fun a k hx q1 q2 q3 => b1 a k (fun hy => by unfold uXr at hy; unfold iX at hx; omega) q1 q2 q3) (fun y hy => by rw [b1 _ _ (by unfold uXr; omega) (by omega) (by omega) (by omega)]; exact hr.2.2.1.2.2.1 y hy) t4 t5, fun a ha => ⟨funext (fun k => b1 a k (by unfold uXr; omega) (by omega) (by omega) (by omega)), funext (fun k => b2 a k (by omega))⟩, by rw [r1, t6]⟩
      · rw [s1] at t1; cases t1
    · have u116 : uT T.2.2.2.2.2.2.1 116 115 I1 := uT_cg h.2.2.2.2.2.1 (fun k => s2 _ _ (by unfold wX; omega)) (fun k => s2 _ _ (by unfold wX; omega))
      refine ⟨.int (-6), T, ⟨_, rfl⟩, hw, ⟨su, sr, sa, PC, PQ, jgsR g 111 1 (some su), I1, J1, cI_U h (fun a => ⟨rfl, rfl⟩) G rfl F1 u116 (by rw [s2 _ _ (by unfold wX; omega)]; exact h.2.2.2.2.2.2), by omega, by omega, OC, by rw [ec, s6, jcI_some, e_TextValues_runs_29]⟩, fun g I J hr => ?_⟩
      obtain ⟨r1, r2⟩ := er g I J hr
      obtain ⟨I2, J2, b1, b2, b3⟩ := r_runs 30 L g (J := J) (x := j) wn r2 (by omega)
      rcases b3 with ⟨t, t1, -⟩ | ⟨t1, t2, t6⟩
      · rw [s1] at t1; cases t1
      · refine ⟨I2, J2, rI_x hr hw (fun a k hx => t2 a k (fun hy => by unfold uXr at hy; unfold iX at hx; omega)) (fun y hy => by rw [t2 _ _ (by unfold uXr; omega)]; exact hr.2.2.1.2.2.1 y hy), fun a ha => ⟨funext (fun k => t2 a k (by unfold uXr; omega)), funext (fun k => b2 a k (by omega))⟩, by rw [r1, t6]⟩
  · refine ⟨.int (tAn 0), tRef T 0, ⟨_, rfl⟩, tRef_W hw, cBad (K := fun r2 S1 => jval 39 140 16 [jjunk, jjunk] [.int r2] S1) h (by omega) ?_ (fun I' => e_TextValues_runs_16 ..), rBad hw (by omega) (fun g I J hr => ⟨fun r2 S1 => jval 39 239 15 [jjunk, jjunk, jjunk, jjunk, jjunk] [.int r2] S1, ?_, fun I' => e_TextValuesModel_runs_15 ..⟩)⟩
    · rw [c_TextValues_runs, e_TextValues_runs_0]
      rcases hx with hx | ⟨hx1, hx2⟩
      · rw [jif_t hx, e_TextValues_runs_10]; rfl
      · rw [jif_f hx1, jif_f (show ¬ x ≤ (999999 : Int32) from fun e => nI_ge (a := 999999) (b := 1000000) (by omega) (by omega) (Int32.le_trans hx2 e)), e_TextValues_runs_10]; rfl
    · rw [c_TextValuesModel_runs, e_TextValuesModel_runs_0, s_in 38 L g I J, show (999999 : Int32) = nI (1000000 - 1) from rfl, hb, jcI_some, e_TextValuesModel_runs_8, jif_t (by decide)]

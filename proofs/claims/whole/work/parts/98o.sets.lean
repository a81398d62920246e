/-! TOP: new setups; sets -/
set_option maxRecDepth 100000
def sP (L : Nat) (P : Nat → kA) (pr : Nat) (g : jG) (I : Nat → Nat → Int32) (J : Nat → Nat → Int64) : Prop := okS pr ∧ pr ≤ g.2.2.2.1 ∧ gK L g pr = 17 ∧ gN L g pr = 4 ∧ ∀ i, i < 4 → ∃ x, gR L g pr i = some x ∧ okS x ∧ x ≤ g.2.2.2.1 ∧ cR L g I J x (P i)
def gQ (L : Nat) (q : Nat → Nat → Nat) (p sr F : Nat) (g : jG) (I : Nat → Nat → Int32) : Prop := pg L q g I p F g.2.2.2.1 ∧ ∀ x, gR L g p 2 = some x ∨ gR L g p 3 = some x → ¬ mkO g x ∧ x ≠ sr
theorem cSu_pq {L : Nat} {q : Nat → Nat → Nat} {P : Nat → kA} {D W su sr F : Nat} {g : jG} {I : Nat → Nat → Int32} {J : Nat → Nat → Int64} (h : cSu L q P D W su sr F g I J) : (∃ pr, gR L g su 0 = some pr ∧ sP L P pr g I J) ∧ ∃ p, gR L g su 1 = some p ∧ gQ L q p sr F g I := ⟨h.2.2.2.2.2.1, h.2.2.2.2.2.2⟩
theorem sP_A {L : Nat} {P : Nat → kA} {pr : Nat} {g g' : jG} {I I' : Nat → Nat → Int32} {J J' : Nat → Nat → Int64} (h : sP L P pr g I J) (hK : ∀ a, a ≤ g.2.2.2.1 → gK L g' a = gK L g a ∧ gN L g' a = gN L g a) (hR : ∀ a k, a ≤ g.2.2.2.1 → (okS a ∨ a = 19) → g'.2.2.1 a k = g.2.2.1 a k) (hC : g.2.2.2.1 ≤ g'.2.2.2.1) (hS : ∀ a, a ≤ g.2.2.2.1 → okS a → (¬ mkO g a ∨ gK L g a = 2) → I' a = I a ∧ J' a = J a) : sP L P pr g' I' J' := by
  obtain ⟨h1, h2, h3, h4, h5⟩ := h
  refine ⟨h1, by omega, (hK pr h2).1.trans h3, (hK pr h2).2.trans h4, fun i hi => ?_⟩
  obtain ⟨x, x1, x2, x3, x4⟩ := h5 i hi
  exact ⟨x, (gR_cg (hR pr i h2 (Or.inl h1))).trans x1, x2, by omega, cR_cg L g x4 (hK x x3).1 (hS x x3 x2 (Or.inr x4.1)).1 (hS x x3 x2 (Or.inr x4.1)).2⟩
theorem gQ_A {L : Nat} {q : Nat → Nat → Nat} {p sr F : Nat} {g g' : jG} {I I' : Nat → Nat → Int32} (h : gQ L q p sr F g I) (h168 : 170 ≤ g.2.2.2.1) (hK : ∀ a, a ≤ g.2.2.2.1 → gK L g' a = gK L g a ∧ gN L g' a = gN L g a) (hR : ∀ a k, a ≤ g.2.2.2.1 → (okS a ∨ a = 19) → g'.2.2.1 a k = g.2.2.1 a k) (hC : g.2.2.2.1 ≤ g'.2.2.2.1) (hS : ∀ a, a ≤ g.2.2.2.1 → okS a → I' a = I a) : gQ L q p sr F g' I' := by
  obtain ⟨⟨o1, o2, o3, o4, ⟨cr, c1, c2, c3, c4, c5, c6⟩, ⟨ar, a1, a2, a3, a4, a5, a6⟩, o7⟩, h2⟩ := h
  have O := mkO_eq (g := g) (g' := g') (fun k => hR 19 k (by omega) (Or.inr rfl))
  have rp : ∀ j, gR L g' p j = gR L g p j := fun j => gR_cg (hR p j o2 (Or.inl (okc_S o1)))
  refine ⟨⟨o1, by omega, (hK p o2).1.trans o3, by rw [hS p o2 (okc_S o1)]; exact o4, ⟨cr, (rp 2).trans c1, c2, by omega, (hK cr c3).1.trans c4, (hK cr c3).2.trans c5, fun j hj => by rw [hS cr c3 (okc_S c2)]; exact c6 j hj⟩, ⟨ar, (rp 3).trans a1, a2, by omega, (hK ar a3).1.trans a4, (hK ar a3).2.trans a5, fun j hj => by rw [hS ar a3 (okc_S a2)]; exact a6 j hj⟩, ?_⟩, fun x hx => ?_⟩
  · rw [rp 0]
    exact nd_h hC F 0 170 _ 0 _ (fun n y1 y2 => ⟨fun k => by rw [hS n y2 (Or.inr (by omega))], (hK n y2).1, hR n 4 y2 (Or.inl (Or.inr (by omega))), hR n 5 y2 (Or.inl (Or.inr (by omega))), hR n 6 y2 (Or.inl (Or.inr (by omega)))⟩) o7
  · rw [rp 2, rp 3] at hx
    exact ⟨fun hm => (h2 x hx).1 ((O x).mp hm), (h2 x hx).2⟩
theorem c_mkS (d L : Nat) (g : jG) {T : zT} {z' : zS} {su sr pr p : Nat} {sa : Nat → Nat} {PC PQ : Nat} {I : Nat → Nat → Int32} {J : Nat → Nat → Int64} (h : cI L T su sr sa PC PQ g I J) (hp : sP L z'.1 pr g I J) (hq : gQ L (zq z') p sr (z'.2.2.1 + 1) g I) (h1 : PC + 1 ≤ 600000) (h2 : PQ + 4 ≤ 7302250) : ∃ g' I' J', cI L T su sr sa (PC + 1) (PQ + 4) g' I' J' ∧ cSz L z' (g.2.2.2.1 + 1) sr g' I' J' ∧ su < g.2.2.2.1 + 1 ∧ (∀ a, a ≤ g.2.2.2.1 → I' a = I a ∧ J' a = J a ∧ gK L g' a = gK L g a) ∧ jrm (jGs L g, I, J) 4 = true ∧ jcall (d + 1) 103 [.ref (g.2.2.2.1 + 1), .ref pr, .ref p, .int (nI z'.2.2.2.1), .int (nI z'.2.2.2.2)] (jGs L (jga g 9 0 4), jup I (g.2.2.2.1 + 1) (fun _ => 0), jup J (g.2.2.2.1 + 1) (fun _ => 0)) = some (none, (jGs L g', I', J')) := by
  have hC := mkI_C h.2.2.1.1.1
  have hP := mkI_P h.2.2.1.1.1
  have hb := h.2.2.2.1.2.2.2
  have hsu : su ≤ g.2.2.2.1 := h.2.2.2.1.2.1.2.1
  generalize hs : g.2.2.2.1 + 1 = s at *
  have K1 : gK L (jga g 9 0 4) s = 9 := by rw [← hs]; exact gK_new hC
  have w : ∀ a k, (jgsR (jgsR (jga g 9 0 4) s 0 (some pr)) s 1 (some p)).2.2.1 a k = if a = s ∧ k = 1 then some p else if a = s ∧ k = 0 then some pr else (jga g 9 0 4).2.2.1 a k := fun a k => by
    show ju (ju (jga g 9 0 4).2.2.1 s 0 (some pr)) s 1 (some p) a k = _
    by_cases e : a = s ∧ k = 1
    · rw [if_pos e, e.1, e.2, zu_at]
    · rw [if_neg e, ju_ne (by omega)]
      by_cases e2 : a = s ∧ k = 0
      · rw [if_pos e2, e2.1, e2.2, zu_at]
      · rw [if_neg e2, ju_ne (by omega)]
  have kK : ∀ a, a ≤ g.2.2.2.1 → gK L (jgsR (jgsR (jga g 9 0 4) s 0 (some pr)) s 1 (some p)) a = gK L g a ∧ gN L (jgsR (jgsR (jga g 9 0 4) s 0 (some pr)) s 1 (some p)) a = gN L g a := fun a ha => ⟨gK_old (kd := 9) (ln := 0) (n := 4) (by omega), gN_old (kd := 9) (ln := 0) (n := 4) (by omega)⟩
  have kS : gK L (jgsR (jgsR (jga g 9 0 4) s 0 (some pr)) s 1 (some p)) s = 9 := K1
  have kC : (jgsR (jgsR (jga g 9 0 4) s 0 (some pr)) s 1 (some p)).2.2.2.1 = g.2.2.2.1 + 1 := rfl
  have kQ : (jgsR (jgsR (jga g 9 0 4) s 0 (some pr)) s 1 (some p)).2.2.2.2 = g.2.2.2.2 + 4 := rfl
  generalize hg2 : jgsR (jgsR (jga g 9 0 4) s 0 (some pr)) s 1 (some p) = g2 at w kK kS kC kQ
  have R : ∀ a k, a ≤ g.2.2.2.1 → g2.2.2.1 a k = g.2.2.1 a k := fun a k ha => by
    rw [w, if_neg (by omega), if_neg (by omega)]; exact jga_R (by omega)
  have S : ∀ a, a ≤ g.2.2.2.1 → ju (ju (jup I s (fun _ => 0)) s 2 (nI z'.2.2.2.1)) s 3 (nI z'.2.2.2.2) a = I a ∧ jup J s (fun _ => 0) a = J a := fun a ha => ⟨by rw [ju_n (by omega), ju_n (by omega), jup_n (by omega)], by rw [jup_n (by omega)]⟩
  refine ⟨g2, ju (ju (jup I s (fun _ => 0)) s 2 (nI z'.2.2.2.1)) s 3 (nI z'.2.2.2.2), jup J s (fun _ => 0), cI_A h kK R kC kQ h1 h2 (fun a ha _ _ => S a ha), ⟨⟨Or.inr (by omega), by omega, kS, by rw [zu_k (by omega), zu_at], zu_at _ _ _ _, ⟨pr, ?_, sP_A hp kK (fun a k ha _ => R a k ha) (by omega) (fun a ha _ _ => S a ha)⟩, p, ?_, gQ_A hq hC kK (fun a k ha _ => R a k ha) (by omega) (fun a ha _ => (S a ha).1)⟩, fun hx => ?_, fun a ha => ?_⟩, by omega, fun a ha => ⟨(S a ha).1, (S a ha).2, (kK a ha).1⟩, jrm_t (by omega) (by omega), ?_⟩
  · rw [gR_dyn (jr0_dyn (by omega) 0), w, if_neg (by omega), if_pos ⟨rfl, rfl⟩]
  · rw [gR_dyn (jr0_dyn (by omega) 1), w, if_pos ⟨rfl, rfl⟩]
  · rw [R 39 2 (by omega)] at hx
    have := hb _ hx
    omega
  · rw [R 39 2 (by omega)] at ha
    have := hb _ ha
    omega
  · rw [c_Setup_init2, e_Setup_init2_0, if_pos (show (jGs L (jga g 9 0 4)).1 s = 9 from K1), jGs_R (jr0_dyn (by omega) 0), e_Setup_init2_9, if_pos (show (jGs L (jgsR (jga g 9 0 4) s 0 (some pr))).1 s = 9 from K1), jGs_R (jr0_dyn (by omega) 1), hg2, e_Setup_init2_14, if_pos (show (jGs L g2).1 s = 9 from kS), if_pos (show (jGs L g2).1 s = 9 from kS)]
theorem c_withD (d L : Nat) (g : jG) {T : zT} {su sr D' : Nat} {sa : Nat → Nat} {PC PQ : Nat} {I : Nat → Nat → Int32} {J : Nat → Nat → Int64} (h : cI L T su sr sa PC PQ g I J) (h1 : PC + 1 ≤ 600000) (h2 : PQ + 4 ≤ 7302250) : ∃ g' I' J', cI L T su sr sa (PC + 1) (PQ + 4) g' I' J' ∧ cSz L (T.2.2.2.1.1, T.2.2.2.1.2.1, T.2.2.2.1.2.2.1, D', T.2.2.2.1.2.2.2.2) (g.2.2.2.1 + 1) sr g' I' J' ∧ su < g.2.2.2.1 + 1 ∧ (∀ a, a ≤ g.2.2.2.1 → I' a = I a ∧ J' a = J a ∧ gK L g' a = gK L g a) ∧ jcall (d + 2) 106 [.ref su, .int (nI D')] (jGs L g, I, J) = some (some (.ref (g.2.2.2.1 + 1)), (jGs L g', I', J')) := by
  have hC := mkI_C h.2.2.1.1.1
  obtain ⟨c1, c2, c3, c4, c5, -⟩ := id h.2.2.2.1.2.1
  obtain ⟨⟨pr, p1, p2⟩, p, q1, q2⟩ := cSu_pq h.2.2.2.1.2.1
  obtain ⟨g', I', J', a1, a2, a3, a4, a5, a6⟩ := c_mkS d L g (z' := (T.2.2.2.1.1, T.2.2.2.1.2.1, T.2.2.2.1.2.2.1, D', T.2.2.2.1.2.2.2.2)) h p2 q2 h1 h2
  refine ⟨g', I', J', a1, a2, a3, a4, ?_⟩
  have ks : (jGs L (jga g 9 0 4)).1 su = 9 := (gK_old (kd := 9) (ln := 0) (n := 4) (by omega)).trans c3
  rw [c_Setup_withDelay, e_Setup_withDelay_0, a5, cond_true, jal_G hC, e_Setup_withDelay_3, if_pos ks, show (jGs L (jga g 9 0 4)).2.2.1 su 0 = some pr from (gR_cg (jga_R (by omega))).trans p1, jo_some, if_pos ks, show (jGs L (jga g 9 0 4)).2.2.1 su 1 = some p from (gR_cg (jga_R (by omega))).trans q1, jo_some, if_pos ks, show jup I (g.2.2.2.1 + 1) (fun _ => 0) su 3 = nI T.2.2.2.1.2.2.2.2 from by rw [jup_n (by omega)]; exact c5, a6, jcV_some, e_Setup_withDelay_20]
theorem c_withW (d L : Nat) (g : jG) {T : zT} {su sr W' : Nat} {sa : Nat → Nat} {PC PQ : Nat} {I : Nat → Nat → Int32} {J : Nat → Nat → Int64} (h : cI L T su sr sa PC PQ g I J) (h1 : PC + 1 ≤ 600000) (h2 : PQ + 4 ≤ 7302250) : ∃ g' I' J', cI L T su sr sa (PC + 1) (PQ + 4) g' I' J' ∧ cSz L (T.2.2.2.1.1, T.2.2.2.1.2.1, T.2.2.2.1.2.2.1, T.2.2.2.1.2.2.2.1, W') (g.2.2.2.1 + 1) sr g' I' J' ∧ su < g.2.2.2.1 + 1 ∧ (∀ a, a ≤ g.2.2.2.1 → I' a = I a ∧ J' a = J a ∧ gK L g' a = gK L g a) ∧ jcall (d + 2) 107 [.ref su, .int (nI W')] (jGs L g, I, J) = some (some (.ref (g.2.2.2.1 + 1)), (jGs L g', I', J')) := by
  have hC := mkI_C h.2.2.1.1.1
  obtain ⟨c1, c2, c3, c4, c5, -⟩ := id h.2.2.2.1.2.1
  obtain ⟨⟨pr, p1, p2⟩, p, q1, q2⟩ := cSu_pq h.2.2.2.1.2.1
  obtain ⟨g', I', J', a1, a2, a3, a4, a5, a6⟩ := c_mkS d L g (z' := (T.2.2.2.1.1, T.2.2.2.1.2.1, T.2.2.2.1.2.2.1, T.2.2.2.1.2.2.2.1, W')) h p2 q2 h1 h2
  refine ⟨g', I', J', a1, a2, a3, a4, ?_⟩
  have ks : (jGs L (jga g 9 0 4)).1 su = 9 := (gK_old (kd := 9) (ln := 0) (n := 4) (by omega)).trans c3
  rw [c_Setup_withSimilar, e_Setup_withSimilar_0, a5, cond_true, jal_G hC, e_Setup_withSimilar_3, if_pos ks, show (jGs L (jga g 9 0 4)).2.2.1 su 0 = some pr from (gR_cg (jga_R (by omega))).trans p1, jo_some, if_pos ks, show (jGs L (jga g 9 0 4)).2.2.1 su 1 = some p from (gR_cg (jga_R (by omega))).trans q1, jo_some, if_pos ks, show jup I (g.2.2.2.1 + 1) (fun _ => 0) su 2 = nI T.2.2.2.1.2.2.2.1 from by rw [jup_n (by omega)]; exact c4, a6, jcV_some, e_Setup_withSimilar_20]
theorem rI_Z {T : zT} {z' : zS} {I I' : Nat → Nat → Int32} (h : rI T I) (hw : zWf T) (h60 : I' 117 60 = 0) (hB : rB (zq z') z'.1 z'.2.2.2.1 z'.2.2.2.2 I') (hc : I' 117 87 = nI z'.2.2.1 ∧ ∀ i, i < z'.2.2.1 → I' 167 i = nI (z'.2.1 i)) (he : ∀ a j, (a = 118 ∨ a = 147 ∨ a = 158 ∨ a = 159 ∨ a = 168 ∨ (a = 117 ∧ (j = 50 ∨ j = 78 ∨ j = 88))) → I' a j = I a j) : rI (T.1, T.2.1, T.2.2.1, z', T.2.2.2.2) I' := by
  obtain ⟨⟨h1, h2⟩, h3, h4, ⟨h5, h6⟩, h7, ⟨h8, h9⟩, h10, h11⟩ := h
  exact ⟨⟨by rw [he _ _ (by omega)]; exact h1, fun i hi => by rw [he _ _ (by omega)]; exact h2 i hi⟩, fun j hj => by rw [he _ _ (by omega)]; exact h3 j hj, hB, hc, Or.inl h60, ⟨by rw [he _ _ (by omega)]; exact h8, fun i hi => rK_x (h9 i hi) (hw.2.2.2.1 i hi).2.1.1 (fun j _ _ => he _ _ (by omega))⟩, uT_cg h10 (fun j => he _ _ (by omega)) (fun j => he _ _ (by omega)), by rw [he _ _ (by omega)]; exact h11⟩
theorem ok_sets (x y : Int32) : okV false 130 259 [.int x, .int y] := by
  intro L T su sr sa PC PQ g I J h hw h1 h2
  have hC := mkI_C h.2.2.1.1.1
  have bad : (∀ (g : jG) (I : Nat → Nat → Int32) (J : Nat → Nat → Int64) su sr sa PC PQ, cI L T su sr sa PC PQ g I J → jcall 40 130 [.ref 1, .int x, .int y] (jGs L g, I, J) = jval 39 130 26 [.ref 1, jjunk, jjunk, jjunk] [] (jGs L g, I, J)) → (∀ (g : jG) (I : Nat → Nat → Int32) (J : Nat → Nat → Int64), jcall 40 259 [.ref 117, .int x, .int y] (jGs L g, I, J) = jval 39 259 26 [.ref 117, jjunk, jjunk, jjunk] [] (jGs L g, I, J)) → ∃ v T', (∃ x, v = Value.int x) ∧ zWf T' ∧ cRs L T' PC PQ I 130 [.int x, .int y] v (jGs L g, I, J) ∧ rRs L T T' 259 [.int x, .int y] v := by
    intro e1 e2
    refine ⟨.int (tAn 0), tRef T 0, ⟨_, rfl⟩, tRef_W hw, cBad (K := fun r2 S1 => jval 39 130 32 [jjunk, jjunk, jjunk, jjunk] [.int r2] S1) h (by omega) ?_ (fun I' => e_TextValues_sets_32 ..), rBad hw (by omega) (fun g I J hr => ⟨fun r2 S1 => jval 39 259 30 [jjunk, jjunk, jjunk, jjunk] [.int r2] S1, ?_, fun I' => e_TextValuesModel_sets_30 ..⟩)⟩
    · rw [e1 g I J su sr sa PC PQ h, e_TextValues_sets_26]; rfl
    · rw [e2, e_TextValuesModel_sets_26]
  obtain ⟨w1, w2, w3, w4⟩ := hw.2.1
  have hlv := h.2.2.2.1.2.1
  have lg : ∀ a, 117 ≤ a → a ≤ 168 → a ≤ g.2.2.2.1 := fun a _ hx => by omega
  rcases ix_b x (n := 2) (by omega) (by omega) with ⟨v, hv, e, hb⟩ | ⟨hx, hb⟩
  · subst e
    have hc : v = 0 ∨ v = 1 := by omega
    rcases hc with ev | ev <;> subst ev
    · rcases ix_b y (n := 6) (by omega) (by omega) with ⟨w, hw6, e', hb'⟩ | ⟨hy, hb'⟩
      · subst e'
        obtain ⟨g1, I1, J1, a1, a2, a3, a4, a5⟩ := c_withD 37 L g (D' := w) h (by omega) (by omega)
        obtain ⟨g2, I2, b1, b2, b3, b4⟩ := c_chg 38 L g1 a1 hw a2 a3
        refine ⟨.int (nI T.2.2.2.1.2.2.2.1), tChg T (T.2.2.2.1.1, T.2.2.2.1.2.1, T.2.2.2.1.2.2.1, w, T.2.2.2.1.2.2.2.2), ⟨_, rfl⟩, tChg_W hw ⟨w1, w2, ⟨by show w ≤ 5; omega, w3.2⟩, w4⟩, ⟨_, _, _, _, _, g2, I2, J1, b1, by omega, by omega, fun a y1 y2 => (b2 a (by omega)).trans (a4 a (by omega)).1, ?_⟩, fun g I J hr => ?_⟩
        · rw [c_TextValues_sets, e_TextValues_sets_0, jif_f (by decide), jif_f (by decide), jif_f (nI_pos (by omega)), jif_t (by decide), e_TextValues_sets_23, jif_t (show nI w ≤ (5 : Int32) from nI_le (b := 5) (by omega) (by omega)), jif_t (by decide), c_s9 h, hlv.2.2.2.1, e_TextValues_sets_54, jif_t (by decide), c_s9 h, a5, jcR_some, e_TextValues_sets_68a, e_TextValues_sets_79a, b4, jcV_some, e_TextValues_sets_82]
        · obtain ⟨I3, k1, k2, k3, k4⟩ := r_leave 38 L g (J := J) hr hw
          have w' := tChg_W hw hw.2.1
          have E : ∀ a j, ¬ (a = 117 ∧ (j = 58 ∨ j = 59)) → ju (ju I3 117 58 (nI w)) 117 59 (I3 117 59) a j = I3 a j := fun a j hj => by rw [ju_ne (by omega), ju_ne (by omega)]
          refine ⟨ju (ju I3 117 58 (nI w)) 117 59 (I3 117 59), J, rI_Z (z' := (T.2.2.2.1.1, T.2.2.2.1.2.1, T.2.2.2.1.2.2.1, w, T.2.2.2.1.2.2.2.2)) k1 w' (by rw [E _ _ (by omega)]; exact k2) ?_ ⟨by rw [E _ _ (by omega)]; exact k1.2.2.2.1.1, fun i hi => by rw [E _ _ (by omega)]; exact k1.2.2.2.1.2 i hi⟩ (fun a j hj => E a j (by omega)), oR_I (fun a j ha => by rw [E a j (by omega), k3 a j (by omega) (by omega)]), ?_⟩
          · obtain ⟨r1, r2, r3, r4, r5, r6, r7, r8⟩ := k1.2.2.1
            exact ⟨rQ_x r1 (fun a j hj => E a j (by omega)), fun i hi => ⟨mR_cg (r2 i hi).1 (fun c hc => E _ _ (by omega)), (r2 i hi).2⟩, fun y hy => by rw [E _ _ (by omega)]; exact r3 y hy, by rw [zu_k (by omega), zu_at], by rw [zu_at]; exact r5, by show w ≤ 5; omega, r7, r8⟩
          · rw [c_TextValuesModel_sets, e_TextValuesModel_sets_0, s_in 38 L g I J, show (1 : Int32) = nI (2 - 1) from rfl, hb, jcI_some, e_TextValuesModel_sets_6, jif_f (by decide), jif_t (by decide), e_TextValuesModel_sets_20, s_in 38 L g I J, show (5 : Int32) = nI (6 - 1) from rfl, hb', jcI_some, e_TextValuesModel_sets_23, jif_f (by decide), k4, jcV_some, e_TextValuesModel_sets_35, jif_t (by decide), e_TextValuesModel_sets_50, jif_t (by decide), e_TextValuesModel_sets_64, jif_f (by decide), e_TextValuesModel_sets_81, k1.2.2.1.2.2.2.1]; rfl
      · refine bad (fun g I J su sr sa PC PQ h => ?_) (fun g I J => ?_)
        · rw [c_TextValues_sets, e_TextValues_sets_0, jif_f (by decide), jif_f (by decide)]
          rcases hy with hy | ⟨hy1, hy2⟩
          · rw [jif_t hy]
          · rw [jif_f hy1, jif_t (by decide), e_TextValues_sets_23, jif_f (show ¬ y ≤ (5 : Int32) from fun e => nI_ge (a := 5) (b := 6) (by omega) (by omega) (Int32.le_trans hy2 e))]
        · rw [c_TextValuesModel_sets, e_TextValuesModel_sets_0, s_in 38 L g I J, show (1 : Int32) = nI (2 - 1) from rfl, hb, jcI_some, e_TextValuesModel_sets_6, jif_f (by decide), jif_t (by decide), e_TextValuesModel_sets_20, s_in 38 L g I J, show (5 : Int32) = nI (6 - 1) from rfl, hb', jcI_some, e_TextValuesModel_sets_23, jif_t (by decide)]
    · rcases ix_b y (n := 2) (by omega) (by omega) with ⟨w, hw6, e', hb'⟩ | ⟨hy, hb'⟩
      · subst e'
        obtain ⟨g1, I1, J1, a1, a2, a3, a4, a5⟩ := c_withW 37 L g (W' := w) h (by omega) (by omega)
        obtain ⟨g2, I2, b1, b2, b3, b4⟩ := c_chg 38 L g1 a1 hw a2 a3
        refine ⟨.int (nI T.2.2.2.1.2.2.2.2), tChg T (T.2.2.2.1.1, T.2.2.2.1.2.1, T.2.2.2.1.2.2.1, T.2.2.2.1.2.2.2.1, w), ⟨_, rfl⟩, tChg_W hw ⟨w1, w2, ⟨w3.1, by show w < 2; omega, w3.2.2⟩, w4⟩, ⟨_, _, _, _, _, g2, I2, J1, b1, by omega, by omega, fun a y1 y2 => (b2 a (by omega)).trans (a4 a (by omega)).1, ?_⟩, fun g I J hr => ?_⟩
        · rw [c_TextValues_sets, e_TextValues_sets_0, jif_f (by decide), jif_f (by decide), jif_f (nI_pos (by omega)), jif_f (by decide), e_TextValues_sets_23, jif_t (show nI w ≤ (1 : Int32) from nI_le (b := 1) (by omega) (by omega)), jif_f (by decide), c_s9 h, hlv.2.2.2.2.1, e_TextValues_sets_54, jif_f (by decide), c_s9 h, a5, jcR_some, e_TextValues_sets_79a, b4, jcV_some, e_TextValues_sets_82]
        · obtain ⟨I3, k1, k2, k3, k4⟩ := r_leave 38 L g (J := J) hr hw
          have w' := tChg_W hw hw.2.1
          have E : ∀ a j, ¬ (a = 117 ∧ (j = 58 ∨ j = 59)) → ju (ju I3 117 58 (I3 117 58)) 117 59 (nI w) a j = I3 a j := fun a j hj => by rw [ju_ne (by omega), ju_ne (by omega)]
          refine ⟨ju (ju I3 117 58 (I3 117 58)) 117 59 (nI w), J, rI_Z (z' := (T.2.2.2.1.1, T.2.2.2.1.2.1, T.2.2.2.1.2.2.1, T.2.2.2.1.2.2.2.1, w)) k1 w' (by rw [E _ _ (by omega)]; exact k2) ?_ ⟨by rw [E _ _ (by omega)]; exact k1.2.2.2.1.1, fun i hi => by rw [E _ _ (by omega)]; exact k1.2.2.2.1.2 i hi⟩ (fun a j hj => E a j (by omega)), oR_I (fun a j ha => by rw [E a j (by omega), k3 a j (by omega) (by omega)]), ?_⟩
          · obtain ⟨r1, r2, r3, r4, r5, r6, r7, r8⟩ := k1.2.2.1
            exact ⟨rQ_x r1 (fun a j hj => E a j (by omega)), fun i hi => ⟨mR_cg (r2 i hi).1 (fun c hc => E _ _ (by omega)), (r2 i hi).2⟩, fun y hy => by rw [E _ _ (by omega)]; exact r3 y hy, by rw [zu_k (by omega), zu_at]; exact r4, by rw [zu_at], r6, by show w < 2; omega, r8⟩
          · have hbb : jb ((0 : Int32) ≤ nI 1 ∧ nI 1 ≤ (1 : Int32)) = true := hb
            have hbb' : jb ((0 : Int32) ≤ nI w ∧ nI w ≤ (1 : Int32)) = true := hb'
            rw [c_TextValuesModel_sets, e_TextValuesModel_sets_0, s_in 38 L g I J, hbb, jcI_some, e_TextValuesModel_sets_6, jif_f (by decide), jif_f (by decide), e_TextValuesModel_sets_20, s_in 38 L g I J, hbb', jcI_some, e_TextValuesModel_sets_23, jif_f (by decide), k4, jcV_some, e_TextValuesModel_sets_35, jif_f (by decide), e_TextValuesModel_sets_50, jif_f (by decide), e_TextValuesModel_sets_64, jif_t (by decide), e_TextValuesModel_sets_81, k1.2.2.1.2.2.2.2.1]; rfl
      · refine bad (fun g I J su sr sa PC PQ h => ?_) (fun g I J => ?_)
        · rw [c_TextValues_sets, e_TextValues_sets_0, jif_f (by decide), jif_f (by decide)]
          rcases hy with hy | ⟨hy1, hy2⟩
          · rw [jif_t hy]
          · rw [jif_f hy1, jif_f (by decide), e_TextValues_sets_23, jif_f (show ¬ y ≤ (1 : Int32) from fun e => nI_ge (a := 1) (b := 2) (by omega) (by omega) (Int32.le_trans hy2 e))]
        · rw [c_TextValuesModel_sets, e_TextValuesModel_sets_0, s_in 38 L g I J]
          have hbb : jb ((0 : Int32) ≤ nI 1 ∧ nI 1 ≤ (1 : Int32)) = true := hb
          rw [hbb, jcI_some, e_TextValuesModel_sets_6, jif_f (by decide), jif_f (by decide), e_TextValuesModel_sets_20, s_in 38 L g I J]
          have hbb' : jb ((0 : Int32) ≤ y ∧ y ≤ (1 : Int32)) = false := hb'
          rw [hbb', jcI_some, e_TextValuesModel_sets_23, jif_t (by decide)]
  · refine bad (fun g I J su sr sa PC PQ h => ?_) (fun g I J => ?_)
    · rw [c_TextValues_sets, e_TextValues_sets_0]
      rcases hx with hx | ⟨hx1, hx2⟩
      · rw [jif_t hx]
      · rw [jif_f hx1, jif_t (show (1 : Int32) < x from Int32.lt_of_lt_of_le (show (1 : Int32) < nI 2 by decide) hx2)]
    · rw [c_TextValuesModel_sets, e_TextValuesModel_sets_0, s_in 38 L g I J, show (1 : Int32) = nI (2 - 1) from rfl, hb, jcI_some, e_TextValuesModel_sets_6, jif_t (by decide)]

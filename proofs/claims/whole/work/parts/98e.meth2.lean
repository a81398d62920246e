/-! TOP: many, text, holds, within -/
set_option maxRecDepth 100000
theorem mkI_P {L g I PC PQ} (h : mkI L g I PC PQ) : g.2.2.2.1 ≤ PC ∧ g.2.2.2.2 ≤ PQ := by
  obtain ⟨kr, rr, sr, gr, fr, c, base, N, z1, z2, z3, z4, z5, z6, z7, z8, z9, z10, -⟩ := h
  unfold pC at z9
  unfold pQ at z10
  omega
theorem mkO_C {L g I PC PQ} (h : mkI L g I PC PQ) {a : Nat} (ha : mkO g a) : a ≤ g.2.2.2.1 := by
  have hC := mkI_C h
  obtain ⟨kr, rr, sr, gr, fr, c, base, N, z1, -⟩ := h
  have hm := (mkO_iff z1).mp ha
  obtain ⟨-, -, -, -, -, -, -, -, -, -, -, -, -, -, -, -, -, -, -, w1, w2, w3, w4, w5⟩ := z1
  omega
/-- new cells alone -/
theorem cSz_A {L : Nat} {z : zS} {s sr PC PQ : Nat} {g g' : jG} {I I' : Nat → Nat → Int32} {J J' : Nat → Nat → Int64} (h : cSz L z s sr g I J) (hI : mkI L g I PC PQ) (hsr : sr ≤ g.2.2.2.1) (hK : ∀ a, a ≤ g.2.2.2.1 → gK L g' a = gK L g a ∧ gN L g' a = gN L g a) (hR : ∀ a k, a ≤ g.2.2.2.1 → g'.2.2.1 a k = g.2.2.1 a k) (hC : g.2.2.2.1 ≤ g'.2.2.2.1) (hS : ∀ a, a ≤ g.2.2.2.1 → (okS a ∨ a = 39 ∨ (40 ≤ a ∧ a ≤ 45) ∨ a = 49 ∨ a = sr) → I' a = I a ∧ J' a = J a) : cSz L z s sr g' I' J' := by
  have h168 := mkI_C hI
  refine ⟨cSu_s h.1 hC (fun a ha hc _ => ⟨(hS a hc (Or.inl ha)).1, (hS a hc (Or.inl ha)).2, (hK a hc).1, (hK a hc).2, fun j => hR a j hc, fun hx => ⟨fun hm => hx.1 ((mkO_eq (fun k => hR 19 k (by omega)) a).mp hm), hx.2⟩⟩), fun hx => ?_, fun a ha => by rw [hR 39 2 (by omega)] at ha; exact Nat.le_trans (h.2.2 a ha) hC⟩
  rw [hR 39 2 (by omega)] at hx
  obtain ⟨h1, h2, h3⟩ := h.2.1 hx
  refine ⟨?_, cG_e h2 ⟨(hS 39 (by omega) (by omega)).1, (hS 49 (by omega) (by omega)).1, (hS sr hsr (by omega)).1⟩, by rw [(hK sr hsr).2]; exact h3⟩
  obtain ⟨V, y1, y2⟩ := h1
  exact ⟨V, fun v hv => cR_cg L g (y1 v hv) (hK _ (by omega)).1 (hS _ (by omega) (by omega)).1 (hS _ (by omega) (by omega)).2, by rw [(hS 40 (by omega) (by omega)).1]; exact y2⟩
theorem cI_A2 {L : Nat} {T : zT} {su sr : Nat} {sa : Nat → Nat} {PC PQ dc dq : Nat} {g g' : jG} {I I' : Nat → Nat → Int32} {J J' : Nat → Nat → Int64} (h : cI L T su sr sa PC PQ g I J) (hK : ∀ a, a ≤ g.2.2.2.1 → gK L g' a = gK L g a ∧ gN L g' a = gN L g a) (hR : ∀ a k, a ≤ g.2.2.2.1 → g'.2.2.1 a k = g.2.2.1 a k) (hC : g'.2.2.2.1 = g.2.2.2.1 + dc) (hQ : g'.2.2.2.2 = g.2.2.2.2 + dq) (h1 : PC + dc ≤ 600000) (h2 : PQ + dq ≤ 7302250) (hS : ∀ a, a ≤ g.2.2.2.1 → ¬ (14 ≤ a ∧ a ≤ 18) → ¬ (30 ≤ a ∧ a ≤ 38) → ¬ (a = 169 ∨ a = 170) → I' a = I a ∧ J' a = J a) : cI L T su sr sa (PC + dc) (PQ + dq) g' I' J' := by
  obtain ⟨⟨t1, t2⟩, ⟨t3, t4, t5⟩, ⟨⟨m1, m2⟩, m3, m4, m5, m6, m7, m8⟩, ⟨h6, h7⟩, ⟨h8, h9⟩, h10, h11⟩ := h
  have h168 := mkI_C m1
  have e : ∀ a, a < 169 → ¬ (14 ≤ a ∧ a ≤ 18) → ¬ (30 ≤ a ∧ a ≤ 38) → I' a = I a := fun a ha h1 h2 => (hS a (by omega) h1 h2 (by omega)).1
  have O := mkO_eq (g := g) (g' := g') (fun k => hR 19 k (by omega))
  have S : ∀ z s, cSz L z s sr g I J → cSz L z s sr g' I' J' := fun z s hs => cSz_A hs m1 m4 hK hR (by omega) (fun a hc ha => hS a hc (by unfold okS at ha; omega) (by unfold okS at ha; omega) (by unfold okS at ha; omega))
  refine ⟨⟨by rw [e 1 (by omega) (by omega) (by omega)]; exact t1, fun i hi => by rw [e 2 (by omega) (by omega) (by omega)]; exact t2 i hi⟩, ⟨by rw [e 1 (by omega) (by omega) (by omega)]; exact t3, by rw [e 1 (by omega) (by omega) (by omega)]; exact t4, by rw [e 1 (by omega) (by omega) (by omega)]; exact t5⟩, ⟨⟨mkI_T m1 (fun a ha => (hS a (mkO_C m1 ha) (fun hx => m2 a (by omega) (by omega) ha) (fun hx => m2 a (by omega) (by omega) ha) (fun hx => m2 a (by omega) (by omega) ha)).1) hK (fun k => hR 19 k (by omega)) hC hQ h1 h2, fun a ha hb hm => m2 a ha hb ((O a).mp hm)⟩, by rw [hR 39 10 (by omega)]; exact m3, by omega, by rw [(hK sr m4).1]; exact m5, fun hm => m6 ((O sr).mp hm), m7, by rw [(hK sr m4).2]; exact m8⟩, ⟨by rw [hR 1 2 (by omega)]; exact h6, S _ _ h7⟩, ⟨by rw [e 1 (by omega) (by omega) (by omega)]; exact h8, fun i hi => ⟨by rw [hR 12 i (by omega)]; exact (h9 i hi).1, S _ _ (h9 i hi).2.1, (h9 i hi).2.2⟩⟩, uT_cg h10 (fun j => by rw [e 116 (by omega) (by omega) (by omega)]) (fun j => by rw [e 115 (by omega) (by omega) (by omega)]), by rw [e 111 (by omega) (by omega) (by omega)]; exact h11⟩
theorem cI_A {L : Nat} {T : zT} {su sr : Nat} {sa : Nat → Nat} {PC PQ dc dq : Nat} {g g' : jG} {I I' : Nat → Nat → Int32} {J J' : Nat → Nat → Int64} (h : cI L T su sr sa PC PQ g I J) (hK : ∀ a, a ≤ g.2.2.2.1 → gK L g' a = gK L g a ∧ gN L g' a = gN L g a) (hR : ∀ a k, a ≤ g.2.2.2.1 → g'.2.2.1 a k = g.2.2.1 a k) (hC : g'.2.2.2.1 = g.2.2.2.1 + dc) (hQ : g'.2.2.2.2 = g.2.2.2.2 + dq) (h1 : PC + dc ≤ 600000) (h2 : PQ + dq ≤ 7302250) (hS : ∀ a, a ≤ g.2.2.2.1 → ¬ (14 ≤ a ∧ a ≤ 18) → ¬ (30 ≤ a ∧ a ≤ 38) → I' a = I a ∧ J' a = J a) : cI L T su sr sa (PC + dc) (PQ + dq) g' I' J' := cI_A2 h hK hR hC hQ h1 h2 (fun a y1 y2 y3 _ => hS a y1 y2 y3)
theorem cI_S {L : Nat} {T : zT} {su sr : Nat} {sa : Nat → Nat} {PC PQ : Nat} {g : jG} {I I' : Nat → Nat → Int32} {J : Nat → Nat → Int64} (h : cI L T su sr sa PC PQ g I J) (hp : PC ≤ 600000 ∧ PQ ≤ 7302250) (hS : ∀ a, ¬ (14 ≤ a ∧ a ≤ 18) → ¬ (30 ≤ a ∧ a ≤ 38) → I' a = I a) : cI L T su sr sa PC PQ g I' J := cI_A (dc := 0) (dq := 0) h (fun _ _ => ⟨rfl, rfl⟩) (fun _ _ _ => rfl) rfl rfl hp.1 hp.2 (fun a _ h1 h2 => ⟨hS a h1 h2, rfl⟩)
theorem cI_room {L : Nat} {T : zT} {su sr : Nat} {sa : Nat → Nat} {PC PQ : Nat} {g : jG} {I : Nat → Nat → Int32} {J : Nat → Nat → Int64} (h : cI L T su sr sa PC PQ g I J) : PC ≤ 600000 ∧ PQ ≤ 7302250 := by
  obtain ⟨kr, rr, s, gr, fr, c, base, N, z1, z2, z3, z4, z5, z6, z7, z8, z9, z10, z11, z12⟩ := h.2.2.1.1.1
  exact ⟨z11, z12⟩
theorem ok_many (x y : Int32) : okV true 132 264 [.int x, .int y] := by
  intro L T su sr sa PC PQ g I J h hw h1 h2
  have bad : (∀ (g : jG) (I : Nat → Nat → Int32) (J : Nat → Nat → Int64), jcall 40 132 [.ref 1, .int x, .int y] (jGs L g, I, J) = jval 39 132 17 [.ref 1, jjunk, jjunk, jjunk] [] (jGs L g, I, J)) → (∀ (g : jG) (I : Nat → Nat → Int32) (J : Nat → Nat → Int64), jcall 40 264 [.ref 117, .int x, .int y] (jGs L g, I, J) = jval 39 264 20 [.ref 117, jjunk, jjunk] [] (jGs L g, I, J)) → ∃ v T', (∃ x, v = Value.long x) ∧ zWf T' ∧ cRs L T' PC PQ I 132 [.int x, .int y] v (jGs L g, I, J) ∧ rRs L T T' 264 [.int x, .int y] v := by
    intro e1 e2
    refine ⟨.long (tAn 0).toInt64, tRef T 0, ⟨_, rfl⟩, tRef_W hw, cBad (K := fun r2 S1 => jval 39 132 23 [jjunk, jjunk, jjunk, jjunk] [.int r2] S1) h (by omega) ?_ (fun I' => e_TextValues_many_23 ..), rBad hw (by omega) (fun g I J hr => ⟨fun r2 S1 => jval 39 264 24 [jjunk, jjunk, jjunk] [.int r2] S1, ?_, fun I' => e_TextValuesModel_many_24 ..⟩)⟩
    · rw [e1, e_TextValues_many_17]; rfl
    · rw [e2, e_TextValuesModel_many_20]
  rcases ix_b x (n := 8) (by omega) (by omega) with ⟨v, hv, e, hb⟩ | ⟨hx, hb⟩
  · subst e
    rcases ix_b y (n := 21) (by omega) (by omega) with ⟨w, hw5, e', hb'⟩ | ⟨hy, hb'⟩
    · subst e'
      obtain ⟨g1, I1, J1, sr1, PC1, PQ1, c1, c2, c3, c4, c5, c6⟩ := c_up h hw h1 h2 hv (fun S1 => jval 39 132 41 [.ref 1, .int (nI v), .int (nI w), jjunk] [] S1)
      have e0 : jcall 40 132 [.ref 1, .int (nI v), .int (nI w)] (jGs L g, I, J) = jval 39 132 41 [.ref 1, .int (nI v), .int (nI w), jjunk] [] (jGs L g1, I1, J1) := by
        rw [c_TextValues_many, e_TextValues_many_0, c_isLang 38 L g, hb, jcI_some, e_TextValues_many_4, jif_f (by decide), jif_f (nI_pos (by omega)), jif_t (show nI w ≤ (20 : Int32) from nI_le (b := 20) (by omega) (by omega))]
        exact c6
      have er : ∀ g I J, rI T I → ∃ I', rI T I' ∧ oR I I' J J ∧ jcall 40 264 [.ref 117, .int (nI v), .int (nI w)] (jGs L g, I, J) = jval 39 264 31 [.ref 117, .int (nI v), .int (nI w)] [.int (bI (zLg T.2.2.2.1 v).isNone)] (jGs L g, I', J) ∧ ∀ A, zLg T.2.2.2.1 v = some A → mR I' (zSl v) A ∧ kV A := by
        intro g I J hr
        obtain ⟨I', a1, a2, a3, a4, a5⟩ := r_nowhere 24 L g (J := J) hr hw hv
        refine ⟨I', a1, a2, ?_, a5⟩
        rw [c_TextValuesModel_many, e_TextValuesModel_many_0, s_in 38 L g I J, show (7 : Int32) = nI (8 - 1) from rfl, hb, jcI_some, e_TextValuesModel_many_7, jif_f (by decide), s_in 38 L g I J, show (20 : Int32) = nI (21 - 1) from rfl, hb', jcI_some, e_TextValuesModel_many_17, jif_f (by decide), a4, jcI_some]
      have hC1 := mkI_C c1.2.2.1.1.1
      have hP1 := mkI_P c1.2.2.1.1.1
      rcases c_lang 35 L g1 c1 hv c5 with ⟨z1, z2⟩ | ⟨A, a, z1, z2, z3, z4, z5⟩
      · obtain ⟨I2, b1, b2, b3⟩ := c_refuse 38 L g1 c1 (j := 1) (by omega)
        refine ⟨.long (tAn 1).toInt64, tRef T 1, ⟨_, rfl⟩, tRef_W hw, ⟨su, sr1, sa, PC1, PQ1, g1, I2, J1, b1, by omega, by omega, oC_t c4 b2, ?_⟩, fun g I J hr => ?_⟩
        · rw [e0, e_TextValues_many_41, z2, jcR_null, e_TextValues_many_46, show (-3 : Int32) = tAn 1 from rfl, b3, jcI_some, e_TextValues_many_57, e_TextValues_many_70]
        · obtain ⟨I', d1, d2, d3, d4⟩ := er g I J hr
          obtain ⟨I3, f1, f2, f3⟩ := r_refuse 38 L g (J := J) d1 hw (j := 1) (by omega)
          refine ⟨I3, J, f1, oR_t d2 f2, ?_⟩
          rw [d3, z1]
          show jval 39 264 31 _ [.int (bI true)] _ = _
          rw [e_TextValuesModel_many_31, jif_f (by decide), f3, jcI_some, e_TextValuesModel_many_38, e_TextValuesModel_many_52]
      · obtain ⟨J2, k1, k4⟩ := c_ofLength 37 L (g := g1) (I := I1) (J := J1) (n := w) z2 (by omega)
        refine ⟨.long (lN (cnt A w 0)), T, ⟨_, rfl⟩, hw, ⟨su, sr1, sa, PC1, PQ1, g1, I1, J2, cI_A2 (dc := 0) (dq := 0) c1 (fun _ _ => ⟨rfl, rfl⟩) (fun _ _ _ => rfl) rfl rfl (by omega) (by omega) (fun a _ _ _ y => ⟨rfl, k1 a (fun e => y (Or.inl e)) (fun e => y (Or.inr e))⟩), by omega, by omega, c4, ?_⟩, fun g I J hr => ?_⟩
        · rw [e0, e_TextValues_many_41, z5, jcR_some, e_TextValues_many_46a, k4, jcJ_some, e_TextValues_many_70]
        · obtain ⟨I', d1, d2, d3, d4⟩ := er g I J hr
          obtain ⟨k1, k2⟩ := d4 A z1
          obtain ⟨J3, f1, f2⟩ := r_manyOf 36 L g J (n := w) k1 (by omega)
          refine ⟨I', J3, d1, oR_t d2 (fun a ha => ⟨rfl, f1 a (by omega) (by omega)⟩), ?_⟩
          rw [d3, z1]
          show jval 39 264 31 _ [.int (bI false)] _ = _
          rw [e_TextValuesModel_many_31, jif_t (by decide), r_slot 38 L g hv, jcI_some, e_TextValuesModel_many_48, f2, jcJ_some, e_TextValuesModel_many_52]
    · refine bad (fun g I J => ?_) (fun g I J => ?_)
      · rw [c_TextValues_many, e_TextValues_many_0, c_isLang 38 L g, hb, jcI_some, e_TextValues_many_4, jif_f (by decide)]
        rcases hy with hy | ⟨hy1, hy2⟩
        · rw [jif_t hy]
        · rw [jif_f hy1, jif_f (show ¬ y ≤ (20 : Int32) from fun e => nI_ge (a := 20) (b := 21) (by omega) (by omega) (Int32.le_trans hy2 e))]
      · rw [c_TextValuesModel_many, e_TextValuesModel_many_0, s_in 38 L g I J, show (7 : Int32) = nI (8 - 1) from rfl, hb, jcI_some, e_TextValuesModel_many_7, jif_f (by decide), s_in 38 L g I J, show (20 : Int32) = nI (21 - 1) from rfl, hb', jcI_some, e_TextValuesModel_many_17, jif_t (by decide)]
  · refine bad (fun g I J => ?_) (fun g I J => ?_)
    · rw [c_TextValues_many, e_TextValues_many_0, c_isLang 38 L g, hb, jcI_some, e_TextValues_many_4, jif_t (by decide)]
    · rw [c_TextValuesModel_many, e_TextValuesModel_many_0, s_in 38 L g I J, show (7 : Int32) = nI (8 - 1) from rfl, hb, jcI_some, e_TextValuesModel_many_7, jif_t (by decide)]
theorem ok_text (x y z : Int32) : okV false 133 265 [.int x, .int y, .int z] := by
  intro L T su sr sa PC PQ g I J h hw h1 h2
  have bad : (∀ (g : jG) (I : Nat → Nat → Int32) (J : Nat → Nat → Int64), jcall 40 133 [.ref 1, .int x, .int y, .int z] (jGs L g, I, J) = jval 39 133 21 [.ref 1, jjunk, jjunk, jjunk, jjunk, jjunk] [] (jGs L g, I, J)) → (∀ (g : jG) (I : Nat → Nat → Int32) (J : Nat → Nat → Int64), jcall 40 265 [.ref 117, .int x, .int y, .int z] (jGs L g, I, J) = jval 39 265 24 [.ref 117, jjunk, jjunk, jjunk] [] (jGs L g, I, J)) → ∃ v T', (∃ x, v = Value.int x) ∧ zWf T' ∧ cRs L T' PC PQ I 133 [.int x, .int y, .int z] v (jGs L g, I, J) ∧ rRs L T T' 265 [.int x, .int y, .int z] v := by
    intro e1 e2
    refine ⟨.int (tAn 0), tRef T 0, ⟨_, rfl⟩, tRef_W hw, cBad (K := fun r2 S1 => jval 39 133 27 [jjunk, jjunk, jjunk, jjunk, jjunk, jjunk] [.int r2] S1) h (by omega) ?_ (fun I' => e_TextValues_text_27 ..), rBad hw (by omega) (fun g I J hr => ⟨fun r2 S1 => jval 39 265 28 [jjunk, jjunk, jjunk, jjunk] [.int r2] S1, ?_, fun I' => e_TextValuesModel_text_28 ..⟩)⟩
    · rw [e1, e_TextValues_text_21]; rfl
    · rw [e2, e_TextValuesModel_text_24]
  rcases ix_b x (n := 8) (by omega) (by omega) with ⟨v, hv, e, hb⟩ | ⟨hx, hb⟩
  · subst e
    rcases ix_b y (n := 21) (by omega) (by omega) with ⟨w, hw5, e', hb'⟩ | ⟨hy, hb'⟩
    · subst e'
      by_cases hz : z < 0
      · refine bad (fun g I J => ?_) (fun g I J => ?_)
        · rw [c_TextValues_text, e_TextValues_text_0, c_isLang 38 L g, hb, jcI_some, e_TextValues_text_4, jif_f (by decide), jif_f (nI_pos (by omega)), jif_f (show ¬ (20 : Int32) < nI w from nI_nlt (a := 20) (by omega) (by omega)), jif_f (Int32.not_le.mpr hz)]
        · rw [c_TextValuesModel_text, e_TextValuesModel_text_0, s_in 38 L g I J, show (7 : Int32) = nI (8 - 1) from rfl, hb, jcI_some, e_TextValuesModel_text_7, jif_f (by decide), s_in 38 L g I J, show (20 : Int32) = nI (21 - 1) from rfl, hb', jcI_some, e_TextValuesModel_text_17, jif_f (by decide), jif_f (Int32.not_le.mpr hz)]
      · obtain ⟨i, hi, e''⟩ := nI_of hz
        subst e''
        obtain ⟨g1, I1, J1, sr1, PC1, PQ1, c1, c2, c3, c4, c5, c6⟩ := c_up h hw h1 h2 hv (fun S1 => jval 39 133 44 [.ref 1, .int (nI v), .int (nI w), .int (nI i), jjunk, jjunk] [] S1)
        have e0 : jcall 40 133 [.ref 1, .int (nI v), .int (nI w), .int (nI i)] (jGs L g, I, J) = jval 39 133 44 [.ref 1, .int (nI v), .int (nI w), .int (nI i), jjunk, jjunk] [] (jGs L g1, I1, J1) := by
          rw [c_TextValues_text, e_TextValues_text_0, c_isLang 38 L g, hb, jcI_some, e_TextValues_text_4, jif_f (by decide), jif_f (nI_pos (by omega)), jif_f (show ¬ (20 : Int32) < nI w from nI_nlt (a := 20) (by omega) (by omega)), jif_t (nI_pos' (by omega))]
          exact c6
        have er : ∀ g I J, rI T I → ∃ I', rI T I' ∧ oR I I' J J ∧ jcall 40 265 [.ref 117, .int (nI v), .int (nI w), .int (nI i)] (jGs L g, I, J) = jval 39 265 34 [.ref 117, .int (nI v), .int (nI w), .int (nI i)] [.int (bI (zLg T.2.2.2.1 v).isNone)] (jGs L g, I', J) ∧ ∀ A, zLg T.2.2.2.1 v = some A → mR I' (zSl v) A ∧ kV A := by
          intro g I J hr
          obtain ⟨I', a1, a2, a3, a4, a5⟩ := r_nowhere 24 L g (J := J) hr hw hv
          refine ⟨I', a1, a2, ?_, a5⟩
          rw [c_TextValuesModel_text, e_TextValuesModel_text_0, s_in 38 L g I J, show (7 : Int32) = nI (8 - 1) from rfl, hb, jcI_some, e_TextValuesModel_text_7, jif_f (by decide), s_in 38 L g I J, show (20 : Int32) = nI (21 - 1) from rfl, hb', jcI_some, e_TextValuesModel_text_17, jif_f (by decide), jif_t (nI_pos' (by omega)), a4, jcI_some]
        rcases c_lang 35 L g1 c1 hv c5 with ⟨z1, z2⟩ | ⟨A, a, z1, z2, z3, z4, z5⟩
        · obtain ⟨I2, b1, b2, b3⟩ := c_refuse 38 L g1 c1 (j := 1) (by omega)
          refine ⟨.int (tAn 1), tRef T 1, ⟨_, rfl⟩, tRef_W hw, ⟨su, sr1, sa, PC1, PQ1, g1, I2, J1, b1, by omega, by omega, oC_t c4 b2, ?_⟩, fun g I J hr => ?_⟩
          · rw [e0, e_TextValues_text_44, z2, jcR_null, e_TextValues_text_49, show (-3 : Int32) = tAn 1 from rfl, b3, jcI_some, e_TextValues_text_62]
          · obtain ⟨I', d1, d2, d3, d4⟩ := er g I J hr
            obtain ⟨I3, f1, f2, f3⟩ := r_refuse 38 L g (J := J) d1 hw (j := 1) (by omega)
            refine ⟨I3, J, f1, oR_t d2 f2, ?_⟩
            rw [d3, z1]
            show jval 39 265 34 _ [.int (bI true)] _ = _
            rw [e_TextValuesModel_text_34, jif_f (by decide), f3, jcI_some, e_TextValuesModel_text_41]
        · obtain ⟨I2, b1, b2⟩ := c_find 35 L g1 (J := J1) (j := w) z2 (by omega)
          have cI2 := cI_S c1 (cI_room c1) (I' := I2) (fun a h1 h2 => b1 a (by omega) (by omega))
          have O2 : oC I I2 := oC_t c4 (fun a y1 y2 => b1 a (by omega) (by omega))
          -- the reference
          have rr : ∀ g I J, rI T I → ∃ I' J', rI T I' ∧ oR I I' J J' ∧ ((∃ u, fT A w = some u ∧ u.length < 220 ∧ I' 117 32 = nI u.length ∧ (∀ x, x < u.length → I' 135 x = nI (u.getD x 0)) ∧ jcall 40 265 [.ref 117, .int (nI v), .int (nI w), .int (nI i)] (jGs L g, I, J) = jval 39 265 52 [.ref 117, jjunk, jjunk, .int (nI i)] [.int (nI 1)] (jGs L g, I', J')) ∨ (fT A w = none ∧ jcall 40 265 [.ref 117, .int (nI v), .int (nI w), .int (nI i)] (jGs L g, I, J) = jval 39 265 52 [.ref 117, jjunk, jjunk, .int (nI i)] [.int (nI 0)] (jGs L g, I', J'))) := by
            intro g I J hr
            obtain ⟨I', d1, d2, d3, d4⟩ := er g I J hr
            obtain ⟨k1, k2⟩ := d4 A z1
            obtain ⟨I3, f1, f2⟩ := r_spells 35 L g J (j := w) k1 (by unfold zSl; split <;> omega) (by omega)
            have fe : ∀ a j, a ≠ 134 → a ≠ 135 → ¬ (a = 117 ∧ j = 32) → I3 a j = I' a j := fun a j h1 h2 h3 => by
              by_cases e : a = 117
              · subst e; exact f1.2 j (by omega)
              · rw [f1.1 a h1 h2 e]
            have es : jval 39 265 34 [.ref 117, .int (nI v), .int (nI w), .int (nI i)] [.int (bI (zLg T.2.2.2.1 v).isNone)] (jGs L g, I', J) = jcI (jcall 39 194 [.ref 117, .int (nI (zSl v)), .int (nI w)] (jGs L g, I', J)) (fun r2 S1 => jval 39 265 52 [.ref 117, jjunk, jjunk, .int (nI i)] [.int r2] S1) := by
              rw [z1]
              show jval 39 265 34 _ [.int (bI false)] _ = _
              rw [e_TextValuesModel_text_34, jif_t (by decide), r_slot 38 L g hv, jcI_some, e_TextValuesModel_text_48]
            refine ⟨I3, J, rI_x d1 hw (fun a j hx => fe a j (by unfold iX at hx; omega) (by unfold iX at hx; omega) (by unfold iX at hx; omega)) (fun y hy => by rw [fe _ _ (by omega) (by omega) (by omega)]; exact d1.2.2.1.2.2.1 y hy), oR_t d2 (oR_I (fun a j ha => fe a j (by omega) (by omega) (by omega))), ?_⟩
            rcases f2 with ⟨u, y1, y2, y3, y4, y5, y6⟩ | ⟨y1, y2⟩
            · exact Or.inl ⟨u, y1, y2, y4, y5, by rw [d3, es, y6, jcI_some]⟩
            · exact Or.inr ⟨y1, by rw [d3, es, y2, jcI_some]⟩
          have start : ∀ r, jcall 39 119 [.ref 13, .ref a, .int (nI w)] (jGs L g1, I1, J1) = some (some (.int r), (jGs L g1, I2, J1)) → jcall 40 133 [.ref 1, .int (nI v), .int (nI w), .int (nI i)] (jGs L g, I, J) = jval 39 133 73 [.ref 1, jjunk, jjunk, .int (nI i), jjunk, jjunk] [.int r] (jGs L g1, I2, J1) := by
            intro r hr
            rw [e0, e_TextValues_text_44, z5, jcR_some, e_TextValues_text_49a, hr, jcI_some]
          rcases b2 with ⟨u, b3, b4, b5, b6⟩ | ⟨b3, b4⟩
          · by_cases hiu : u.length ≤ i
            · refine ⟨.int (-1), T, ⟨_, rfl⟩, hw, ⟨su, sr1, sa, PC1, PQ1, g1, I2, J1, cI2, by omega, by omega, O2, ?_⟩, fun g I J hr => ?_⟩
              · rw [start _ b6, e_TextValues_text_73, jif_t (nI_pos' (by omega)), jif_t (nI_le hiu (by omega)), e_TextValues_text_104]
              · obtain ⟨I', J', d1, d2, d3⟩ := rr g I J hr
                rcases d3 with ⟨u', y1, y2, y3, y4, y5⟩ | ⟨y1, -⟩
                · rw [b3] at y1; cases y1
                  refine ⟨I', J', d1, d2, ?_⟩
                  rw [y5, e_TextValuesModel_text_52, jif_f (by decide), y3, jif_t (nI_le hiu (by omega)), e_TextValuesModel_text_79]
                · rw [b3] at y1; cases y1
            · refine ⟨.int (97 + nI (u.getD i 0)), T, ⟨_, rfl⟩, hw, ⟨su, sr1, sa, PC1, PQ1, g1, I2, J1, cI2, by omega, by omega, O2, ?_⟩, fun g I J hr => ?_⟩
              · rw [start _ b6, e_TextValues_text_73, jif_t (nI_pos' (by omega)), jif_f (nI_ge (by omega) (by omega)), c_letter 38 L g1 (by omega), jcI_some, e_TextValues_text_99, e_TextValues_text_104, b5 i (by omega)]
              · obtain ⟨I', J', d1, d2, d3⟩ := rr g I J hr
                rcases d3 with ⟨u', y1, y2, y3, y4, y5⟩ | ⟨y1, -⟩
                · rw [b3] at y1; cases y1
                  refine ⟨I', J', d1, d2, ?_⟩
                  rw [y5, e_TextValuesModel_text_52, jif_f (by decide), y3, jif_f (nI_ge (by omega) (by omega)), jin_nI (by omega) (by omega), cond_true, nI_c (by omega), y4 i (by omega), e_TextValuesModel_text_79]
                · rw [b3] at y1; cases y1
          · refine ⟨.int (-5), T, ⟨_, rfl⟩, hw, ⟨su, sr1, sa, PC1, PQ1, g1, I2, J1, cI2, by omega, by omega, O2, ?_⟩, fun g I J hr => ?_⟩
            · rw [start _ b4, e_TextValues_text_73, jif_f (by decide)]
            · obtain ⟨I', J', d1, d2, d3⟩ := rr g I J hr
              rcases d3 with ⟨u', y1, y2, y3, y4, y5⟩ | ⟨y1, y2⟩
              · rw [b3] at y1; cases y1
              · refine ⟨I', J', d1, d2, ?_⟩
                rw [y2, e_TextValuesModel_text_52, jif_t (by decide)]
    · refine bad (fun g I J => ?_) (fun g I J => ?_)
      · rw [c_TextValues_text, e_TextValues_text_0, c_isLang 38 L g, hb, jcI_some, e_TextValues_text_4, jif_f (by decide)]
        rcases hy with hy | ⟨hy1, hy2⟩
        · rw [jif_t hy]
        · rw [jif_f hy1, jif_t (show (20 : Int32) < y from Int32.lt_of_lt_of_le (show (20 : Int32) < nI 21 by decide) hy2)]
      · rw [c_TextValuesModel_text, e_TextValuesModel_text_0, s_in 38 L g I J, show (7 : Int32) = nI (8 - 1) from rfl, hb, jcI_some, e_TextValuesModel_text_7, jif_f (by decide), s_in 38 L g I J, show (20 : Int32) = nI (21 - 1) from rfl, hb', jcI_some, e_TextValuesModel_text_17, jif_t (by decide)]
  · refine bad (fun g I J => ?_) (fun g I J => ?_)
    · rw [c_TextValues_text, e_TextValues_text_0, c_isLang 38 L g, hb, jcI_some, e_TextValues_text_4, jif_t (by decide)]
    · rw [c_TextValuesModel_text, e_TextValuesModel_text_0, s_in 38 L g I J, show (7 : Int32) = nI (8 - 1) from rfl, hb, jcI_some, e_TextValuesModel_text_7, jif_t (by decide)]

/-! TOP: type, clear, value, many -/
set_option maxRecDepth 100000
def cRs (L : Nat) (T' : zT) (PC PQ : Nat) (I : Nat → Nat → Int32) (mc : Nat) (args : List Value) (v : Value) (S : jS) : Prop := ∃ su' sr' sa' PC' PQ' g' I1 J1, cI L T' su' sr' sa' PC' PQ' g' I1 J1 ∧ PC' ≤ PC + 200 ∧ PQ' ≤ PQ + 6000 ∧ oC I I1 ∧ jcall 40 mc (.ref 1 :: args) S = some (some v, (jGs L g', I1, J1))
def rRs (L : Nat) (T T' : zT) (mr : Nat) (args : List Value) (v : Value) : Prop := ∀ g I J, rI T I → ∃ I2 J2, rI T' I2 ∧ oR I I2 J J2 ∧ jcall 40 mr (.ref 117 :: args) (jGs L g, I, J) = some (some v, (jGs L g, I2, J2))
/-- both answer alike -/
def okV (lg : Bool) (mc mr : Nat) (args : List Value) : Prop := ∀ L T su sr sa PC PQ g I J, cI L T su sr sa PC PQ g I J → zWf T → PC + 200 ≤ 600000 → PQ + 6000 ≤ 7302250 → ∃ v T', (match lg with
  | false => ∃ x, v = .int x
  | true => ∃ x, v = .long x) ∧ zWf T' ∧ cRs L T' PC PQ I mc args v (jGs L g, I, J) ∧ rRs L T T' mr args v
section OK
variable {L : Nat} {T : zT} {su sr : Nat} {sa : Nat → Nat} {PC PQ mc mr j : Nat} {g : jG} {I : Nat → Nat → Int32} {J : Nat → Nat → Int64} {args : List Value} {v : Value}
theorem cBad (h : cI L T su sr sa PC PQ g I J) (hj : j < 3) {K : Int32 → jS → Option (Option Value × jS)} (e : jcall 40 mc (.ref 1 :: args) (jGs L g, I, J) = jcI (jcall 39 147 [.ref 1, .int (tAn j)] (jGs L g, I, J)) K) (hK : ∀ I', K (tAn j) (jGs L g, I', J) = some (some v, (jGs L g, I', J))) : cRs L (tRef T j) PC PQ I mc args v (jGs L g, I, J) := by
  obtain ⟨I', a1, a2, a3⟩ := c_refuse 38 L g h hj
  exact ⟨su, sr, sa, PC, PQ, g, I', J, a1, by omega, by omega, a2, by rw [e, a3, jcI_some]; exact hK I'⟩
theorem rBad (hw : zWf T) (hj : j < 3) (e : ∀ g I J, rI T I → ∃ K : Int32 → jS → Option (Option Value × jS), jcall 40 mr (.ref 117 :: args) (jGs L g, I, J) = jcI (jcall 39 (156 + j) [.ref 117] (jGs L g, I, J)) K ∧ ∀ I', K (tAn j) (jGs L g, I', J) = some (some v, (jGs L g, I', J))) : rRs L T (tRef T j) mr args v := by
  intro g I J h
  obtain ⟨K, e1, e2⟩ := e g I J h
  obtain ⟨I', a1, a2, a3⟩ := r_refuse 38 L g (J := J) h hw hj
  exact ⟨I', J, a1, a2, by rw [e1, a3, jcI_some]; exact e2 I'⟩
/-- what stays the same -/
theorem rSame (hw : zWf T) (e : ∀ g I J, rI T I → ∃ I2 J2, (∀ a j, iX a j → I2 a j = I a j) ∧ (∀ y, y < 10240 → I2 125 y = 0) ∧ oR I I2 J J2 ∧ jcall 40 mr (.ref 117 :: args) (jGs L g, I, J) = some (some v, (jGs L g, I2, J2))) : rRs L T T mr args v := by
  intro g I J h
  obtain ⟨I2, J2, e1, e2, e3, e4⟩ := e g I J h
  exact ⟨I2, J2, rI_x h hw e1 e2, e3, e4⟩
/-- the analysis, where a variable is asked for -/
theorem c_up (h : cI L T su sr sa PC PQ g I J) (hw : zWf T) (h1 : PC + 200 ≤ 600000) (h2 : PQ + 6000 ≤ 7302250) {w : Nat} (hv : w < 8) (K : jS → Option (Option Value × jS)) : ∃ g' I' J' sr' PC' PQ', cI L T su sr' sa PC' PQ' g' I' J' ∧ PC' ≤ PC + 1 ∧ PQ' ≤ PQ + 3000 ∧ oC I I' ∧ (w < 4 → cZs L g' I' J' 40 (zR T.2.2.2.1).1) ∧ jif ((4 : Int32) ≤ nI w) (K (jGs L g, I, J)) (jo (g.2.2.1 1 2) (jcV (jcall 39 7 [.ref 39, .null] (jGs L g, I, J)) K) (fun b1 => jcV (jcall 39 7 [.ref 39, .ref b1] (jGs L g, I, J)) K)) = K (jGs L g', I', J') := by
  by_cases h4 : w < 4
  · obtain ⟨g', I', J', sr', PC', PQ', a1, a2, a3, a4, a5, a6⟩ := c_rf 18 L g h hw (by omega) (by omega)
    refine ⟨g', I', J', sr', PC', PQ', a1, a2, a3, a4, fun _ => a5.1, ?_⟩
    rw [jif_f (show ¬ (4 : Int32) ≤ nI w from nI_ge (b := 4) (by omega) (by omega)), h.2.2.2.1.1, jo_some, a6, jcV_some]
  · refine ⟨g, I, J, sr, PC, PQ, h, by omega, by omega, oC_r I, fun e => absurd e h4, ?_⟩
    rw [jif_t (show (4 : Int32) ≤ nI w from nI_le (a := 4) (by omega) (by omega))]
end OK
theorem ok_type (x : Int32) : okV false 126 254 [.int x] := by
  intro L T su sr sa PC PQ g I J h hw h1 h2
  rcases ix_b x (n := 128) (by omega) (by omega) with ⟨j, hj, e, hb⟩ | ⟨hx, hb⟩
  · subst e
    have hN := hw.1.1
    have e0 : jcall 40 126 [.ref 1, .int (nI j)] (jGs L g, I, J) = jif (nI T.1 < Int32.ofNat 120) (cond (jin (nI T.1) 120) (some (some (.int (nI T.1 + (1 : Int32))), (jGs L g, ju (ju I 2 (nI T.1).toNatClampNeg (nI j).toInt8.toInt32.toInt8.toInt32) 1 1 (nI T.1 + (1 : Int32)), J))) none) (jval 39 126 36 [.ref 1, jjunk] [] (jGs L g, I, J)) := by
      rw [c_TextValues_type, e_TextValues_type_0, jif_f (nI_pos (by omega)), jif_t (show nI j ≤ (127 : Int32) from nI_le (b := 127) (by omega) (by omega)), h.1.1, jif_f (nI_pos (by omega))]
    by_cases hf : T.1 < 120
    · refine ⟨.int (nI (T.1 + 1)), (T.1 + 1, jup T.2.1 T.1 j, T.2.2.1, T.2.2.2), ⟨_, rfl⟩, ⟨⟨by show T.1 + 1 ≤ 120; omega, fun i hi => ?_⟩, hw.2⟩, ⟨su, sr, sa, PC, PQ, g, ju (ju I 2 T.1 (nI j)) 1 1 (nI (T.1 + 1)), J, ?_, by omega, by omega, fun a y1 y2 => by rw [ju_n (by omega), ju_n (by omega)], ?_⟩, ?_⟩
      · show jup T.2.1 T.1 j i < 128
        by_cases e : i = T.1
        · rw [e, jup_s]; exact hj
        · rw [jup_n e]; exact hw.1.2 i (by have : i < T.1 + 1 := hi; omega)
      · refine cI_1 h (fun a y1 y2 => by rw [ju_n y1, ju_n y2]) (by rw [zu_k (by omega), zu_a (by omega)]) ⟨zu_at _ _ _ _, fun i hi => ?_⟩ ⟨by rw [zu_k (by omega), zu_a (by omega)]; exact h.2.1.1, by rw [zu_k (by omega), zu_a (by omega)]; exact h.2.1.2.1, by rw [zu_k (by omega), zu_a (by omega)]; exact h.2.1.2.2⟩
        rw [zu_a (by omega)]
        by_cases e : i = T.1
        · rw [e, zu_at, jup_s]
        · rw [zu_k e, jup_n e]; exact h.1.2 i (by omega)
      · rw [e0, jif_t (show nI T.1 < Int32.ofNat 120 from Eq.mpr (zi_lt (b := 120) (by omega) (by omega)) hf), jin_nI (by omega) (by omega), cond_true, nI_c (by omega), zi_b hj, zi_b hj, nI_1]
      · intro g I J hr
        refine ⟨ju (ju I 147 T.1 (nI j)) 117 50 (nI (T.1 + 1)), J, rI_1 hr hw (fun a y y1 y2 y3 => by rw [ju_ne (by omega), ju_ne (by omega)]) ⟨zu_at _ _ _ _, fun i hi => ?_⟩ (fun y hy => by rw [zu_a (by omega), zu_a (by omega)]; exact hr.2.1 y hy), oR_I (fun a y ha => by rw [ju_ne (by omega), ju_ne (by omega)]), ?_⟩
        · rw [zu_a (by omega)]
          by_cases e : i = T.1
          · rw [e, zu_at, jup_s]
          · rw [zu_k e, jup_n e]; exact hr.1.2 i (by omega)
        · rw [c_TextValuesModel_type, e_TextValuesModel_type_0, s_in 38 L g I J, show (127 : Int32) = nI (128 - 1) from rfl, hb, jcI_some, e_TextValuesModel_type_7, jif_f (by decide), hr.1.1, jif_f (show ¬ nI T.1 = (120 : Int32) from fun e => by have := (nI_eq (b := 120) (by omega) (by omega)).mp e; omega), jin_nI (by omega) (by omega), cond_true, nI_c (by omega), nI_1]
    · have eN : T.1 = 120 := by omega
      refine ⟨.int (tAn 2), tRef T 2, ⟨_, rfl⟩, tRef_W hw, cBad (K := fun r2 S1 => jval 39 126 42 [jjunk, jjunk] [.int r2] S1) h (by omega) ?_ (fun I' => e_TextValues_type_42 ..), rBad hw (by omega) (fun g I J hr => ⟨fun r4 S3 => jval 39 254 28 [jjunk, jjunk] [.int r4] S3, ?_, fun I' => e_TextValuesModel_type_28 ..⟩)⟩
      · rw [e0, jif_f (show ¬ nI T.1 < Int32.ofNat 120 from fun e => hf (Eq.mp (zi_lt (b := 120) (by omega) (by omega)) e)), e_TextValues_type_36]
        rfl
      · rw [c_TextValuesModel_type, e_TextValuesModel_type_0, s_in 38 L g I J, show (127 : Int32) = nI (128 - 1) from rfl, hb, jcI_some, e_TextValuesModel_type_7, jif_f (by decide), hr.1.1, eN, jif_t (by decide)]
  · refine ⟨.int (tAn 0), tRef T 0, ⟨_, rfl⟩, tRef_W hw, cBad (K := fun r2 S1 => jval 39 126 16 [jjunk, jjunk] [.int r2] S1) h (by omega) ?_ (fun I' => e_TextValues_type_16 ..), rBad hw (by omega) (fun g I J hr => ⟨fun r4 S3 => jval 39 254 14 [jjunk, jjunk] [.int r4] S3, ?_, fun I' => e_TextValuesModel_type_14 ..⟩)⟩
    · rw [c_TextValues_type, e_TextValues_type_0]
      rcases hx with hx | ⟨hx1, hx2⟩
      · rw [jif_t hx, e_TextValues_type_10]; rfl
      · rw [jif_f hx1, jif_f (show ¬ x ≤ (127 : Int32) from fun e => nI_ge (a := 127) (b := 128) (by omega) (by omega) (Int32.le_trans hx2 e)), e_TextValues_type_10]; rfl
    · rw [c_TextValuesModel_type, e_TextValuesModel_type_0, s_in 38 L g I J, show (127 : Int32) = nI (128 - 1) from rfl, hb, jcI_some, e_TextValuesModel_type_7, jif_t (by decide)]
theorem ok_clear : okV false 127 255 [] := by
  intro L T su sr sa PC PQ g I J h hw h1 h2
  refine ⟨.int (nI T.1), (0, T.2.1, T.2.2.1, T.2.2.2), ⟨_, rfl⟩, ⟨⟨by show 0 ≤ 120; omega, fun i hi => absurd hi (by show ¬ i < 0; omega)⟩, hw.2⟩, ⟨su, sr, sa, PC, PQ, g, ju I 1 1 0, J, cI_1 h (fun a y1 _ => ju_n y1) (zu_k (by omega)) ⟨zu_at _ _ _ _, fun i hi => by omega⟩ ⟨by rw [zu_k (by omega)]; exact h.2.1.1, by rw [zu_k (by omega)]; exact h.2.1.2.1, by rw [zu_k (by omega)]; exact h.2.1.2.2⟩, by omega, by omega, fun a y1 y2 => ju_n (by omega), ?_⟩, fun g I J hr => ⟨ju I 117 50 0, J, rI_1 hr hw (fun a y _ _ y3 => ju_ne (by omega)) ⟨zu_at _ _ _ _, fun i hi => by omega⟩ (fun y hy => by rw [zu_a (by omega)]; exact hr.2.1 y hy), oR_I (fun a y ha => ju_ne (by omega)), ?_⟩⟩
  · rw [c_TextValues_clear, e_TextValues_clear_0, h.1.1]
  · rw [c_TextValuesModel_clear, e_TextValuesModel_clear_0, hr.1.1]
theorem ok_value (x y : Int32) : okV false 131 263 [.int x, .int y] := by
  intro L T su sr sa PC PQ g I J h hw h1 h2
  -- refused
  have bad : (∀ (g : jG) (I : Nat → Nat → Int32) (J : Nat → Nat → Int64), jcall 40 131 [.ref 1, .int x, .int y] (jGs L g, I, J) = jval 39 131 16 [.ref 1, jjunk, jjunk, jjunk] [] (jGs L g, I, J)) → (∀ (g : jG) (I : Nat → Nat → Int32) (J : Nat → Nat → Int64), jcall 40 263 [.ref 117, .int x, .int y] (jGs L g, I, J) = jval 39 263 19 [.ref 117, jjunk, jjunk] [] (jGs L g, I, J)) → ∃ v T', (∃ x, v = Value.int x) ∧ zWf T' ∧ cRs L T' PC PQ I 131 [.int x, .int y] v (jGs L g, I, J) ∧ rRs L T T' 263 [.int x, .int y] v := by
    intro e1 e2
    refine ⟨.int (tAn 0), tRef T 0, ⟨_, rfl⟩, tRef_W hw, cBad (K := fun r2 S1 => jval 39 131 22 [jjunk, jjunk, jjunk, jjunk] [.int r2] S1) h (by omega) ?_ (fun I' => e_TextValues_value_22 ..), rBad hw (by omega) (fun g I J hr => ⟨fun r2 S1 => jval 39 263 23 [jjunk, jjunk, jjunk] [.int r2] S1, ?_, fun I' => e_TextValuesModel_value_23 ..⟩)⟩
    · rw [e1, e_TextValues_value_16]; rfl
    · rw [e2, e_TextValuesModel_value_19]
  rcases ix_b x (n := 8) (by omega) (by omega) with ⟨v, hv, e, hb⟩ | ⟨hx, hb⟩
  · subst e
    rcases ix_b y (n := 5) (by omega) (by omega) with ⟨w, hw5, e', hb'⟩ | ⟨hy, hb'⟩
    · subst e'
      obtain ⟨g1, I1, J1, sr1, PC1, PQ1, c1, c2, c3, c4, c5, c6⟩ := c_up h hw h1 h2 hv (fun S1 => jval 39 131 39 [.ref 1, .int (nI v), .int (nI w), jjunk] [] S1)
      have e0 : jcall 40 131 [.ref 1, .int (nI v), .int (nI w)] (jGs L g, I, J) = jval 39 131 39 [.ref 1, .int (nI v), .int (nI w), jjunk] [] (jGs L g1, I1, J1) := by
        rw [c_TextValues_value, e_TextValues_value_0, c_isLang 38 L g, hb, jcI_some, e_TextValues_value_4, jif_f (by decide), jif_f (nI_pos (by omega)), jif_t (show nI w ≤ (4 : Int32) from nI_le (b := 4) (by omega) (by omega))]
        exact c6
      have er : ∀ g I J, rI T I → ∃ I', rI T I' ∧ oR I I' J J ∧ jcall 40 263 [.ref 117, .int (nI v), .int (nI w)] (jGs L g, I, J) = jval 39 263 29 [.ref 117, .int (nI v), .int (nI w)] [.int (bI (zLg T.2.2.2.1 v).isNone)] (jGs L g, I', J) ∧ ∀ A, zLg T.2.2.2.1 v = some A → mR I' (zSl v) A ∧ kV A := by
        intro g I J hr
        obtain ⟨I', a1, a2, a3, a4, a5⟩ := r_nowhere 24 L g (J := J) hr hw hv
        refine ⟨I', a1, a2, ?_, a5⟩
        rw [c_TextValuesModel_value, e_TextValuesModel_value_0, s_in 38 L g I J, show (7 : Int32) = nI (8 - 1) from rfl, hb, jcI_some, e_TextValuesModel_value_7, jif_f (by decide), s_in 38 L g I J, show (4 : Int32) = nI (5 - 1) from rfl, hb', jcI_some, e_TextValuesModel_value_16, jif_f (by decide), a4, jcI_some]
      rcases c_lang 35 L g1 c1 hv c5 with ⟨z1, z2⟩ | ⟨A, a, z1, z2, z3, z4, z5⟩
      · obtain ⟨I2, b1, b2, b3⟩ := c_refuse 38 L g1 c1 (j := 1) (by omega)
        refine ⟨.int (tAn 1), tRef T 1, ⟨_, rfl⟩, tRef_W hw, ⟨su, sr1, sa, PC1, PQ1, g1, I2, J1, b1, by omega, by omega, oC_t c4 b2, ?_⟩, fun g I J hr => ?_⟩
        · rw [e0, e_TextValues_value_39, z2, jcR_null, e_TextValues_value_44, show (-3 : Int32) = tAn 1 from rfl, b3, jcI_some, e_TextValues_value_55, e_TextValues_value_64]
        · obtain ⟨I', d1, d2, d3, d4⟩ := er g I J hr
          obtain ⟨I3, f1, f2, f3⟩ := r_refuse 38 L g (J := J) d1 hw (j := 1) (by omega)
          refine ⟨I3, J, f1, oR_t d2 f2, ?_⟩
          rw [d3, z1]
          show jval 39 263 29 _ [.int (bI true)] _ = _
          rw [e_TextValuesModel_value_29, jif_f (by decide), f3, jcI_some, e_TextValuesModel_value_36, e_TextValuesModel_value_49]
      · refine ⟨.int (dsc A w), T, ⟨_, rfl⟩, hw, ⟨su, sr1, sa, PC1, PQ1, g1, I1, J1, c1, by omega, by omega, c4, ?_⟩, fun g I J hr => ?_⟩
        · rw [e0, e_TextValues_value_39, z5, jcR_some, e_TextValues_value_44a, c_dsc 34 L g1 z2 hw5, jcI_some, e_TextValues_value_64]
        · obtain ⟨I', d1, d2, d3, d4⟩ := er g I J hr
          obtain ⟨k1, k2⟩ := d4 A z1
          obtain ⟨I3, f1, f2⟩ := r_dsc 34 L g (J := J) k1 k2 hw5
          refine ⟨I3, J, rI_x d1 hw (fun a j hx => by rw [f1 a (by unfold iX at hx; omega)]) (fun y hy => by rw [f1 125 (by omega)]; exact d1.2.2.1.2.2.1 y hy), oR_t d2 (oR_I (fun a j ha => by rw [f1 a (by omega)])), ?_⟩
          rw [d3, z1]
          show jval 39 263 29 _ [.int (bI false)] _ = _
          rw [e_TextValuesModel_value_29, jif_t (by decide), r_slot 38 L g hv, jcI_some, e_TextValuesModel_value_45, f2, jcI_some, e_TextValuesModel_value_49]
    · refine bad (fun g I J => ?_) (fun g I J => ?_)
      · rw [c_TextValues_value, e_TextValues_value_0, c_isLang 38 L g, hb, jcI_some, e_TextValues_value_4, jif_f (by decide)]
        rcases hy with hy | ⟨hy1, hy2⟩
        · rw [jif_t hy]
        · rw [jif_f hy1, jif_f (show ¬ y ≤ (4 : Int32) from fun e => nI_ge (a := 4) (b := 5) (by omega) (by omega) (Int32.le_trans hy2 e))]
      · rw [c_TextValuesModel_value, e_TextValuesModel_value_0, s_in 38 L g I J, show (7 : Int32) = nI (8 - 1) from rfl, hb, jcI_some, e_TextValuesModel_value_7, jif_f (by decide), s_in 38 L g I J, show (4 : Int32) = nI (5 - 1) from rfl, hb', jcI_some, e_TextValuesModel_value_16, jif_t (by decide)]
  · refine bad (fun g I J => ?_) (fun g I J => ?_)
    · rw [c_TextValues_value, e_TextValues_value_0, c_isLang 38 L g, hb, jcI_some, e_TextValues_value_4, jif_t (by decide)]
    · rw [c_TextValuesModel_value, e_TextValuesModel_value_0, s_in 38 L g I J, show (7 : Int32) = nI (8 - 1) from rfl, hb, jcI_some, e_TextValuesModel_value_7, jif_t (by decide)]

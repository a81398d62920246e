/-! ANALYSIS, THE CLASS: an alarm rings -/
set_option maxRecDepth 100000
def cRa (sr : Nat) (I : Nat → Nat → Int32) (j : Nat) (o : Option (List Nat)) : Prop := (o = none ∧ I 49 j = -1) ∨ ∃ w, o = some w ∧ w.length < 100 ∧ kW w ∧ I 49 j = nI w.length ∧ ∀ x, x < w.length → I sr (100 * j + x) = nI (w.getD x 0)
/-- the counters and the alarms -/
def cG (q : Nat → Nat → Nat) (G : yG) (sr : Nat) (I : Nat → Nat → Int32) : Prop := I 39 7 = nI G.1 ∧ I 39 8 = nI G.2.1 ∧ G.2.1 ≤ 25 ∧ ∀ j, j < q 117 42 → cRa sr I j (G.2.2 j)
theorem cG_e {q : Nat → Nat → Nat} {G : yG} {sr : Nat} {I I' : Nat → Nat → Int32} (h : cG q G sr I) (he : eH sr I I') : cG q G sr I' := by
  obtain ⟨h1, h2, h3, h4⟩ := h
  refine ⟨by rw [he.1]; exact h1, by rw [he.1]; exact h2, h3, fun j hj => ?_⟩
  unfold cRa
  rw [he.2.1, he.2.2]
  exact h4 j hj
section CC
variable (d L : Nat) (g : jG) {I : Nat → Nat → Int32} {J : Nat → Nat → Int64}
theorem c_raisedLength {j : Nat} (hj : j < 120) : jcall (d + 1) 5 [.ref 39, .int (nI j)] (jGs L g, I, J) = some (some (.int (I 49 j)), (jGs L g, I, J)) := by
  rw [c_Analysis_raisedLength, e_Analysis_raisedLength_0, jif_f (nI_pos (by omega)), jif_f (show ¬ Int32.ofNat 120 ≤ nI j from nI_ge (b := 120) (by omega) (by omega)), jin_nI (by omega) (by omega), cond_true, nI_c (by omega), e_Analysis_raisedLength_23]
theorem c_raisedLetter {j i sr : Nat} (hr : g.2.2.1 39 10 = some sr) (ks : gK L g sr = 14) (hn : gN L g sr ≤ 12000) (hj : 100 * j + i < gN L g sr) : jcall (d + 1) 6 [.ref 39, .int (nI j), .int (nI i)] (jGs L g, I, J) = some (some (.int (I sr (100 * j + i))), (jGs L g, I, J)) := by
  have k14 : (jGs L g).1 sr = 14 := ks
  have e : nI j * (100 : Int32) + nI i = nI (100 * j + i) := by rw [show (100 : Int32) = nI 100 from rfl, nI_mul, nI_add, Nat.mul_comm]
  have hn' : (jGs L g).2.1 sr ≤ 12000 := hn
  have hj' : 100 * j + i < (jGs L g).2.1 sr := hj
  rw [c_Analysis_raisedLetter, e_Analysis_raisedLetter_0, e, jif_f (nI_pos (by omega)), hr, jo_some, if_pos (by rw [k14]; omega), jif_f (show ¬ Int32.ofNat ((jGs L g).2.1 sr) ≤ nI (100 * j + i) from nI_ge (by omega) (by omega)), jo_some, if_pos k14, jin_nI (by omega) (by omega), cond_true, nI_c (by omega), e_Analysis_raisedLetter_30]
theorem c_isSmaller {j sr : Nat} {w u : List Nat} (hr : g.2.2.1 39 10 = some sr) (ks : gK L g sr = 14) (hn : gN L g sr ≤ 12000) (hj : 100 * j + 100 ≤ gN L g sr) (hw : w.length < 100) (kw : kW w) (hp : ∀ x, x < w.length → I 15 x = nI (w.getD x 0)) (e2 : u.length < 100) (e3 : kW u) (e4 : I 49 j = nI u.length) (e5 : ∀ x, x < u.length → I sr (100 * j + x) = nI (u.getD x 0)) : jcall (d + 2) 11 [.ref 39, .int (nI w.length), .int (nI j)] (jGs L g, I, J) = some (some (.int (bI (yLs w u))), (jGs L g, I, J)) := by
  rw [c_Analysis_isSmaller, e_Analysis_isSmaller_0, c_raisedLength d L g (by omega), jcI_some, e_Analysis_isSmaller_6, e4]
  unfold yLs
  by_cases hl : w.length = u.length
  · rw [jif_t (by rw [hl]), decide_eq_false (by omega), decide_eq_true hl, Bool.false_or, Bool.true_and, show (0 : Int32) = nI 0 from rfl]
    have loop : ∀ n i, i + n = w.length → jval (d + 1) 11 26 [.ref 39, .int (nI w.length), .int (nI j), .int (nI i)] [] (jGs L g, I, J) = some (some (.int (bI (yLx (w.drop i) (u.drop i)))), (jGs L g, I, J)) := by
      intro n
      induction n with
      | zero =>
        intro i hi
        rw [e_Analysis_isSmaller_26, jif_t (nI_le (by omega) (by omega)), e_Analysis_isSmaller_54, jif_t (nI_le (by omega) (by omega)), e_Analysis_isSmaller_80, e_Analysis_isSmaller_81, jif_t (Or.inl rfl), List.drop_eq_nil_of_le (by omega)]
        rfl
      | succ n ih =>
        intro i hi
        have w3 := kW_get kw (show i < w.length by omega)
        have u3 := kW_get e3 (show i < u.length by omega)
        rw [drop_c (show i < w.length by omega), drop_c (show i < u.length by omega)]
        have r1 : I 15 i = nI (w.getD i 0) := hp i (by omega)
        have r2 : I sr (100 * j + i) = nI (u.getD i 0) := e5 i (by omega)
        have e79 : jval (d + 1) 11 54 [.ref 39, .int (nI w.length), .int (nI j), .int (nI i)] [] (jGs L g, I, J) = jif (nI (u.getD i 0) ≤ nI (w.getD i 0)) (some (some (.int (nI 0)), (jGs L g, I, J))) (some (some (.int (nI 1)), (jGs L g, I, J))) := by
          rw [e_Analysis_isSmaller_54, jif_f (nI_ge (by omega) (by omega)), c_letter d L g (by omega), jcI_some, e_Analysis_isSmaller_67, c_raisedLetter d L g hr ks hn (by omega), jcI_some, e_Analysis_isSmaller_73, r1, r2, e_Analysis_isSmaller_80, e_Analysis_isSmaller_81, jif_t (Or.inl rfl), e_Analysis_isSmaller_81, jif_t (Or.inr rfl)]
          rfl
        rw [e_Analysis_isSmaller_26, jif_f (nI_ge (by omega) (by omega)), c_letter d L g (by omega), jcI_some, e_Analysis_isSmaller_39, c_raisedLetter d L g hr ks hn (by omega), jcI_some, e_Analysis_isSmaller_45, r1, r2, nI_1, e79]
        show _ = some (some (Value.int (bI (if w.getD i 0 = u.getD i 0 then yLx (w.drop (i + 1)) (u.drop (i + 1)) else decide (w.getD i 0 < u.getD i 0)))), (jGs L g, I, J))
        by_cases he : w.getD i 0 = u.getD i 0
        · rw [jif_t (by rw [he]), if_pos he]
          exact ih (i + 1) (by omega)
        · rw [jif_f (fun e => he ((nI_eq (by omega) (by omega)).mp e)), if_neg he]
          by_cases hlt : w.getD i 0 < u.getD i 0
          · rw [jif_f (nI_ge (by omega) (by omega)), decide_eq_true hlt]; rfl
          · rw [jif_t (nI_le (by omega) (by omega)), decide_eq_false hlt]; rfl
    exact loop w.length 0 (by omega)
  · rw [jif_f (fun e => hl ((nI_eq (by omega) (by omega)).mp e)), c_raisedLength d L g (by omega), jcI_some, e_Analysis_isSmaller_15, e4, decide_eq_false hl, Bool.false_and, Bool.or_false]
    by_cases hlt : w.length < u.length
    · rw [jif_f (nI_ge (by omega) (by omega)), e_Analysis_isSmaller_23, jif_t (Or.inr rfl), decide_eq_true hlt]; rfl
    · rw [jif_t (nI_le (by omega) (by omega)), e_Analysis_isSmaller_23, jif_t (Or.inl rfl), decide_eq_false hlt]; rfl
end CC
section CC
variable (d L : Nat) {q : Nat → Nat → Nat} {P : Nat → kA} {D W su sr F PC PQ : Nat}
theorem c_look (g : jG) {I : Nat → Nat → Int32} {J : Nat → Nat → Int64} {n a : Nat} {V : yV} {G : yG} (hB : cB L q P D W su sr F PC PQ g I J) (hs : cZs L g I J 40 (some V)) (hG : cG q G sr I) (hn : nQ L q g I n a) (hb : bS q a) (hk3 : q 138 a = 3) : ∃ I', cB L q P D W su sr F PC PQ g I' J ∧ fZ L 5 sr g g I I' J J ∧ cZs L g I' J 40 (some V) ∧ cG q (yRing q P V a G) sr I' ∧ jcall (d + 4) 10 [.ref 39, .ref n] (jGs L g, I, J) = some (none, (jGs L g, I', J)) := by
  obtain ⟨v4, w4, j42⟩ := hb.2.2.1 hk3
  obtain ⟨n1, n2, n3⟩ := hn.2.2.2.2.2.2.1 hk3
  have b42 := hB.2.2.2.2.2.2.1.2.2.2
  have hC := mkI_C hB.1.1
  obtain ⟨h5, h6, h7, h8, h9, h10⟩ := hB.2.2.1
  have k4 : (jGs L g).1 n = 4 := hn.1
  have k9 : (jGs L g).1 su = 9 := hB.2.2.2.1.2.2.1
  have k14 : (jGs L g).1 sr = 14 := h6
  obtain ⟨lv, l1⟩ := cZs_v hs
  obtain ⟨x, x1, x2, x3, x4⟩ := c_patternAt (d + 2) L g hB.2.2.2.1 w4
  obtain ⟨I1, ol, a1, a2, a3⟩ := c_smallest (d + 1) L g (J := J) (m := 1) (ins := true) (fun x y => by rw [mHow_1]; cases x <;> cases y <;> rfl) (lv _ v4) x1
  have hcm : yCm (V (q 139 a)) (P (q 140 a)) = ol := yCm_eq a2
  -- changes of 15 to 18, 49 and sr alone
  have chg : ∀ I2, (∀ y, y ≠ 15 → y ≠ 16 → y ≠ 17 → y ≠ 18 → y ≠ 49 → y ≠ sr → I2 y = I y) → cB L q P D W su sr F PC PQ g I2 J ∧ fZ L 5 sr g g I I2 J J ∧ cZs L g I2 J 40 (some V) := by
    intro I2 hI2
    obtain ⟨B2, Z2⟩ := cB_o (k := 5) (I1 := I2) (J1 := J) hB (fun y hy => ⟨by unfold zX at hy; exact hI2 y (by omega) (by omega) (by omega) (by omega) (by omega) (by omega), rfl⟩)
    refine ⟨B2, Z2, V, fun w hw => cR_cg L g (lv w hw) rfl (hI2 _ (by omega) (by omega) (by omega) (by omega) (by omega) (by omega)) rfl, Or.inr ⟨rfl, ?_⟩⟩
    rw [hI2 40 (by omega) (by omega) (by omega) (by omega) (by omega) (by omega)]
    exact l1
  have E1 : eH sr I I1 := ⟨a1 39 (by omega) (by omega) (by omega) (by omega), a1 49 (by omega) (by omega) (by omega) (by omega), a1 sr (by omega) (by omega) (by omega) (by omega)⟩
  have G1 := cG_e hG E1
  have start : jcall (d + 4) 10 [.ref 39, .ref n] (jGs L g, I, J) = jcI (jcall (d + 3) 123 [.ref 13, .ref (40 + 2 + q 139 a), .ref x, .int (1 : Int32)] (jGs L g, I, J)) (fun r2 S1 => jval (d + 3) 10 49 [.ref 39, jjunk, .int (nI (q 141 a)), jjunk, jjunk] [.int r2] S1) := by
    rw [c_Analysis_look, e_Analysis_look_0, if_pos k4, n3, jif_f (nI_pos (by omega)), jif_t (show nI (q 141 a) < Int32.ofNat 120 from Eq.mpr (zi_lt (b := 120) (by omega) (by omega)) (by omega)), if_pos k4, n1, c_at (d + 2) L g (Or.inl rfl) v4, jcR_some, e_Analysis_look_34a, hB.2.1.1, jo_some, if_pos k4, if_pos k9, n2, x4, jcR_some, e_Analysis_look_45c]
  rw [start]
  unfold yRing
  rw [hcm]
  -- nothing new
  have stay : ∀ o, o = G.2.2 (q 141 a) → cG q (G.1, G.2.1, jup G.2.2 (q 141 a) o) sr I1 := by
    intro o ho
    refine ⟨G1.1, G1.2.1, G1.2.2.1, fun j hj => ?_⟩
    show cRa sr I1 j (jup G.2.2 (q 141 a) o j)
    by_cases e : j = q 141 a
    · rw [e, jup_s, ho]; exact G1.2.2.2 _ j42
    · rw [jup_n e]; exact G1.2.2.2 j hj
  obtain ⟨B1, Z1, S1⟩ := chg I1 (fun y y1 y2 y3 y4 _ _ => a1 y y1 y2 y3 y4)
  rcases a3 with ⟨f1, f2⟩ | ⟨w, f1, f2, f3, f4, f5⟩
  · subst f1
    refine ⟨I1, B1, Z1, S1, stay _ rfl, ?_⟩
    rw [show (1 : Int32) = bI true from rfl, f2, jcI_some, e_Analysis_look_49, jif_t (by decide), e_Analysis_look_72]
  · subst f1
    rw [show (1 : Int32) = bI true from rfl, f5, jcI_some, e_Analysis_look_49, jif_f (nI_pos (by omega)), jin_nI (by omega) (by omega), cond_true, nI_c (by omega)]
    -- the new text is kept
    have keep : ∃ I', cB L q P D W su sr F PC PQ g I' J ∧ fZ L 5 sr g g I I' J J ∧ cZs L g I' J 40 (some V) ∧ cG q (G.1, G.2.1, jup G.2.2 (q 141 a) (some w)) sr I' ∧ jval (d + 3) 10 73 [.ref 39, jjunk, .int (nI (q 141 a)), .int (nI w.length), jjunk] [] (jGs L g, I1, J) = some (none, (jGs L g, I', J)) := by
      have loop : ∀ m x I2, x + m = w.length → (∀ b j, ¬ (b = sr ∧ 100 * q 141 a ≤ j ∧ j < 100 * q 141 a + 100) → ¬ (b = 49 ∧ j = q 141 a) → I2 b j = I1 b j) → I2 49 (q 141 a) = nI w.length → (∀ y, y < x → I2 sr (100 * q 141 a + y) = nI (w.getD y 0)) → ∃ I', (∀ b j, ¬ (b = sr ∧ 100 * q 141 a ≤ j ∧ j < 100 * q 141 a + 100) → ¬ (b = 49 ∧ j = q 141 a) → I' b j = I1 b j) ∧ I' 49 (q 141 a) = nI w.length ∧ (∀ y, y < w.length → I' sr (100 * q 141 a + y) = nI (w.getD y 0)) ∧ jval (d + 3) 10 83 [.ref 39, jjunk, .int (nI (q 141 a)), .int (nI w.length), .int (nI x)] [] (jGs L g, I2, J) = some (none, (jGs L g, I', J)) := by
        intro m
        induction m with
        | zero =>
          intro x I2 hx y1 y2 y3
          refine ⟨I2, y1, y2, fun y hy => y3 y (by omega), ?_⟩
          rw [e_Analysis_look_83, jif_t (nI_le (by omega) (by omega)), e_Analysis_look_132]
        | succ m ih =>
          intro x I2 hx y1 y2 y3
          have w3 := kW_get f3 (show x < w.length by omega)
          have r1 : I2 15 x = nI (w.getD x 0) := (y1 _ _ (by omega) (by omega)).trans (f4 x (by omega))
          have e : nI (q 141 a) * (100 : Int32) + nI x = nI (100 * q 141 a + x) := by rw [show (100 : Int32) = nI 100 from rfl, nI_mul, nI_add, Nat.mul_comm]
          obtain ⟨I', z1, z2, z3, z4⟩ := ih (x + 1) (ju I2 sr (100 * q 141 a + x) (nI (w.getD x 0))) (by omega) (fun a j h1 h2 => by rw [ju_ne (by omega)]; exact y1 a j h1 h2) (by rw [zu_a (by omega)]; exact y2) (fun y hy => by
            by_cases hyx : y = x
            · rw [hyx, zu_at]
            · rw [zu_k (by omega)]; exact y3 y (by omega))
          refine ⟨I', z1, z2, z3, ?_⟩
          have h9' : 100 * q 117 42 ≤ (jGs L g).2.1 sr := h9
          have h10' : (jGs L g).2.1 sr ≤ 12000 := h10
          rw [e_Analysis_look_83, jif_f (nI_ge (by omega) (by omega)), hB.2.1.2, jo_some, if_pos (by rw [k14]; omega), e, jif_f (show ¬ Int32.ofNat ((jGs L g).2.1 sr) ≤ nI (100 * q 141 a + x) from nI_ge (by omega) (by omega)), jo_some, c_letter (d + 2) L g (by omega), jcI_some, e_Analysis_look_124a, if_pos k14, jin_nI (by omega) (by omega), cond_true, nI_c (by omega), r1, zi_b (by omega), zi_b (by omega), nI_1]
          exact z4
      obtain ⟨I', z1, z2, z3, z4⟩ := loop w.length 0 (ju I1 49 (q 141 a) (nI w.length)) (by omega) (fun a j h1 h2 => ju_ne (by omega)) (zu_at _ _ _ _) (fun y hy => absurd hy (by omega))
      obtain ⟨B2, Z2, S2⟩ := chg I' (fun y y1 y2 y3 y4 y5 y6 => by
        rw [← a1 y y1 y2 y3 y4]
        funext j
        exact z1 y j (by omega) (by omega))
      refine ⟨I', B2, Z2, S2, ⟨(z1 _ _ (by omega) (by omega)).trans G1.1, (z1 _ _ (by omega) (by omega)).trans G1.2.1, G1.2.2.1, fun j hj => ?_⟩, ?_⟩
      · show cRa sr I' j (jup G.2.2 (q 141 a) (some w) j)
        by_cases hjj : j = q 141 a
        · rw [hjj, jup_s]; exact Or.inr ⟨w, rfl, f2, f3, z2, z3⟩
        · rw [jup_n hjj]
          rcases G1.2.2.2 j hj with ⟨y1, y2⟩ | ⟨u, y1, y2, y3, y4, y5⟩
          · exact Or.inl ⟨y1, (z1 _ _ (by omega) (by omega)).trans y2⟩
          · exact Or.inr ⟨u, y1, y2, y3, (z1 _ _ (by omega) (by omega)).trans y4, fun x hx => (z1 _ _ (by omega) (by omega)).trans (y5 x hx)⟩
      · rw [e_Analysis_look_73, jin_nI (by omega) (by omega), cond_true, nI_c (by omega), show (0 : Int32) = nI 0 from rfl]
        exact z4
    rcases hG.2.2.2 _ j42 with ⟨y1, y2⟩ | ⟨u, y1, y2, y3, y4, y5⟩
    · rw [y1]
      show ∃ I', _ ∧ _ ∧ _ ∧ cG q (G.1, G.2.1, jup G.2.2 (q 141 a) (some w)) sr I' ∧ _
      rw [E1.2.1, y2, jif_t (by decide)]
      exact keep
    · rw [y1]
      show ∃ I', _ ∧ _ ∧ _ ∧ cG q (G.1, G.2.1, jup G.2.2 (q 141 a) (if yLs w u = true then some w else some u)) sr I' ∧ _
      rw [E1.2.1, y4, jif_f (nI_pos (by omega)), c_isSmaller (d + 1) L g hB.2.1.2 h6 h10 (by omega) f2 f3 f4 y2 y3 (by rw [E1.2.1]; exact y4) (fun x hx => by rw [E1.2.2]; exact y5 x hx), jcI_some, e_Analysis_look_69]
      cases hls : yLs w u with
      | true =>
        rw [jif_f (by decide), if_pos rfl]
        exact keep
      | false =>
        rw [jif_t (by decide), if_neg (by decide)]
        exact ⟨I1, B1, Z1, S1, stay _ y1.symm, e_Analysis_look_72 ..⟩
end CC

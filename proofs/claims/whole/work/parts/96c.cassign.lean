/-! ANALYSIS, THE CLASS: a variable is set -/
set_option maxRecDepth 100000
section CC
variable (d L : Nat) (g : jG) {I : Nat → Nat → Int32} {J : Nat → Nat → Int64}
theorem c_varS {v : Nat} (hv : v < 4) : jcall (d + 1) 82 [.int (nI (vS v))] (jGs L g, I, J) = some (some (.int (nI v)), (jGs L g, I, J)) := by
  have : v = 0 ∨ v = 1 ∨ v = 2 ∨ v = 3 := by omega
  rcases this with e | e | e | e <;> subst e
  · rw [c_ProgramReader_variableOf, e_ProgramReader_variableOf_0, jif_t (by decide), e_ProgramReader_variableOf_36]; rfl
  · rw [c_ProgramReader_variableOf, e_ProgramReader_variableOf_0, jif_f (by decide), jif_t (by decide), e_ProgramReader_variableOf_38]; rfl
  · rw [c_ProgramReader_variableOf, e_ProgramReader_variableOf_0, jif_f (by decide), jif_f (by decide), jif_f (by decide), jif_t (by decide), e_ProgramReader_variableOf_40]; rfl
  · rw [c_ProgramReader_variableOf, e_ProgramReader_variableOf_0, jif_f (by decide), jif_f (by decide), jif_f (by decide), jif_f (by decide), jif_t (by decide), e_ProgramReader_variableOf_42]; rfl
theorem c_quoteEnd {p cc n : Nat} {t : Nat → Nat} (h : pgC L g I p cc n t) : ∀ m i, i + m < n → (∀ j, j < m → t (i + j) ≠ 39 ∧ t (i + j) < 128) → t (i + m) = 39 → jval (d + 1) 64 2 [.ref p, jjunk, .int (nI i)] [] (jGs L g, I, J) = some (some (.int (nI (i + m))), (jGs L g, I, J)) := by
  have k6 : (jGs L g).1 p = 6 := h.1
  have r2 : (jGs L g).2.2.1 p 2 = some cc := h.2.1
  have k14 : (jGs L g).1 cc = 14 := h.2.2.1
  have ln : (jGs L g).2.1 cc = n := h.2.2.2.1
  have hn := h.2.2.2.2.1
  intro m
  induction m with
  | zero =>
    intro i hi _ ht
    rw [Nat.add_zero] at ht hi
    rw [e_Program_quoteEnd_2, if_pos k6, r2, jo_some, if_pos (by rw [k14]; omega), ln, jif_f (show ¬ Int32.ofNat n ≤ nI i from nI_ge (by omega) (by omega)), if_pos k6, c_codeAt d L g h hi, jcI_some, e_Program_quoteEnd_16, ht, jif_t (by decide), e_Program_quoteEnd_27, Nat.add_zero]
  | succ m ih =>
    intro i hi hj ht
    have h0 := hj 0 (by omega)
    rw [Nat.add_zero] at h0
    rw [e_Program_quoteEnd_2, if_pos k6, r2, jo_some, if_pos (by rw [k14]; omega), ln, jif_f (show ¬ Int32.ofNat n ≤ nI i from nI_ge (by omega) (by omega)), if_pos k6, c_codeAt d L g h (by omega), jcI_some, e_Program_quoteEnd_16, jif_f (show ¬ nI (t i) = (39 : Int32) from fun e => h0.1 ((nI_eq (b := 39) (by omega) (by omega)).mp e)), nI_1, ih (i + 1) (by omega) (fun j hjm => by rw [show i + 1 + j = i + (j + 1) by omega]; exact hj (j + 1) (by omega)) (by rw [show i + 1 + m = i + (m + 1) by omega]; exact ht), show i + 1 + m = i + (m + 1) by omega]
end CC
theorem cB_pgC {L : Nat} {q : Nat → Nat → Nat} {P : Nat → kA} {D W su sr F PC PQ p : Nat} {g : jG} {I : Nat → Nat → Int32} {J : Nat → Nat → Int64} (h : cB L q P D W su sr F PC PQ g I J) (hp : gR L g su 1 = some p) : ∃ cc, pgC L g I p cc (q 35 8) (q 38) := by
  obtain ⟨p', e, h1, -⟩ := h.2.2.2.1.2.2.2.2.2.2
  rw [hp] at e
  cases e
  obtain ⟨o1, o2, o3, o4, ⟨cr, c1, c2, c3, c4, c5, c6⟩, -⟩ := h1
  exact ⟨cr, o3, c1, c4, c5, h.2.2.2.2.2.2.2, fun i hi => ⟨c6 i hi, trivial⟩⟩
section CC
variable (d L : Nat) {q : Nat → Nat → Nat} {P : Nat → kA} {D W su sr F PC PQ : Nat}
/-- one language is set to another -/
theorem c_setB (g : jG) {I : Nat → Nat → Int32} {J : Nat → Nat → Int64} {a b : Nat} {A : kA} (hB : cB L q P D W su sr F PC PQ g I J) (ka : gK L g a = 2) (h : cR L g I J b A) : ∃ I' J', mkI L g I' PC PQ ∧ fX L g g I I' J J' a ∧ cR L g I' J' a A ∧ jcall (d + 1) 20 [.ref a, .ref b] (jGs L g, I, J) = some (none, (jGs L g, I', J')) := by
  obtain ⟨I', J', q1, q2, q3⟩ := c_set d L g ka h
  exact ⟨I', J', mkI_out L g hB.1.1 ka (fun x hx => (q1 x hx).1), fX_one q1, q2, q3⟩
/-- a part is laid into cell 48 -/
theorem c_part (g : jG) {I : Nat → Nat → Int32} {J : Nat → Nat → Int64} {n p pl k e i f : Nat} {V : yV} (hB : cB L q P D W su sr F PC PQ g I J) (hs : cZs L g I J 40 (some V)) (hp : gR L g su 1 = some p) (hcd : cd q (f + 1) pl k e) (hke : k < e) (hi : i < 120) : ∃ g1 I1 J1 en, mkI L g1 I1 PC PQ ∧ fX L g g1 I I1 J J1 48 ∧ cR L g1 I1 J1 48 (yPt q P V k) ∧ cd q f (en + 1) (k + 1) e ∧ jval (d + 8) 9 16 [.ref 39, .ref n, .ref p, .int (nI pl), .int (nI i), jjunk, jjunk] [] (jGs L g, I, J) = jval (d + 8) 9 134 [.ref 39, .ref n, .ref p, jjunk, .int (nI i), jjunk, .int (nI en)] [] (jGs L g1, I1, J1) := by
  obtain ⟨cc, hpg⟩ := cB_pgC hB hp
  have hC := mkI_C hB.1.1
  have k6 : (jGs L g).1 p = 6 := hpg.1
  have k9 : (jGs L g).1 su = 9 := hB.2.2.2.1.2.2.1
  have k48 : gK L g 48 = 2 := rfl
  have h120 := hB.2.2.2.2.2.2.2
  obtain ⟨lv, -⟩ := cZs_v hs
  obtain ⟨hpl, hx⟩ := hcd
  rcases hx with ⟨e1, -⟩ | ⟨-, -, hx⟩
  · omega
  have to38 : q 38 pl < 128 → q 38 pl ≠ 59 → jval (d + 8) 9 16 [.ref 39, .ref n, .ref p, .int (nI pl), .int (nI i), jjunk, jjunk] [] (jGs L g, I, J) = jval (d + 8) 9 38 [.ref 39, .ref n, .ref p, .int (nI pl), .int (nI i), jjunk, jjunk] [.int (nI (q 38 pl))] (jGs L g, I, J) := by
    intro h128 h59
    rw [e_Analysis_assign_16a, jif_f (show ¬ (120 : Int32) ≤ nI i from nI_ge (b := 120) (by omega) (by omega)), if_pos k6, c_codeAt (d + 7) L g hpg hpl, jcI_some, e_Analysis_assign_28, jif_f (show ¬ nI (q 38 pl) = (59 : Int32) from fun e => h59 ((nI_eq (b := 59) (by omega) (by omega)).mp e)), if_pos k6, c_codeAt (d + 7) L g hpg hpl, jcI_some]
  unfold yPt
  rcases hx with ⟨y1, y2, y3, y4⟩ | ⟨y1, y2, y3, y4⟩ | ⟨y1, y2, y3, y4, y5, y6⟩
  · have hvS : (vS (q 145 k) = 117 ∨ vS (q 145 k) = 118 ∨ vS (q 145 k) = 120 ∨ vS (q 145 k) = 121) := by
      unfold vS
      split
      · omega
      · split
        · omega
        · split <;> omega
    obtain ⟨I1, J1, b1, b2, b3, b4⟩ := c_setB (d + 7) L g hB k48 (lv _ y2)
    refine ⟨g, I1, J1, pl, b1, b2, by rw [if_pos y1]; exact b3, y4, ?_⟩
    rw [to38 (by omega) (by omega), e_Analysis_assign_38, jif_f (show ¬ nI (q 38 pl) = (39 : Int32) from fun e => by have := (nI_eq (b := 39) (by omega) (by omega)).mp e; omega), jif_f (show ¬ nI (q 38 pl) < (48 : Int32) from fun e => by have := (zi_lt (b := 48) (by omega) (by omega)).mp e; omega), jif_t (show (51 : Int32) < nI (q 38 pl) from (zi_lt (a := 51) (by omega) (by omega)).mpr (by omega)), e_Analysis_assign_115, y3, c_varS (d + 7) L g y2, jcI_some, e_Analysis_assign_128, c_at (d + 7) L g (Or.inl rfl) y2, jcR_some, e_Analysis_assign_131a, b4, jcV_some]
  · obtain ⟨x, x1, x2, x3, x4⟩ := c_patternAt (d + 7) L g hB.2.2.2.1 y2
    obtain ⟨I1, J1, b1, b2, b3, b4⟩ := c_setB (d + 7) L g hB k48 x1
    refine ⟨g, I1, J1, pl, b1, b2, by rw [if_neg (by omega), if_neg (by omega)]; exact b3, y4, ?_⟩
    rw [to38 (by omega) (by omega), e_Analysis_assign_38, jif_f (show ¬ nI (q 38 pl) = (39 : Int32) from fun e => by have := (nI_eq (b := 39) (by omega) (by omega)).mp e; omega), jif_f (show ¬ nI (q 38 pl) < (48 : Int32) from fun e => by have := (zi_lt (b := 48) (by omega) (by omega)).mp e; omega), jif_f (show ¬ (51 : Int32) < nI (q 38 pl) from fun e => by have := (zi_lt (a := 51) (by omega) (by omega)).mp e; omega), hB.2.1.1, jo_some, if_pos k9, y3, show nI (48 + q 145 k) - (48 : Int32) = nI (q 145 k) by rw [show (48 : Int32) = nI 48 from rfl, zi_sub (by omega), Nat.add_sub_cancel_left], x4, jcR_some, e_Analysis_assign_109a, b4, jcV_some, e_Analysis_assign_112]
  · have hl := cd_lt y6
    obtain ⟨g1, I1, J1, b1, b2, b3, b4⟩ := c_single (d + 5) L g (f := pl + 1) (n := q 146 k) (out := 48) (t := fun j => q 120 (q 145 k + j)) hB.1.1 hpg (by omega) (fun j hj => ⟨(y4 j hj).2, (y4 j hj).1⟩) k48 (by omega)
    refine ⟨g1, I1, J1, pl + 1 + q 146 k, b1, b2, by rw [if_neg (by omega), if_pos y1]; exact b3, by rw [show pl + 1 + q 146 k + 1 = pl + q 146 k + 2 by omega]; exact y6, ?_⟩
    rw [to38 (by omega) (by omega), e_Analysis_assign_38, y2, jif_t (by decide), if_pos k6, nI_1, c_Program_quoteEnd, e_Program_quoteEnd_0, c_quoteEnd (d + 6) L g hpg (q 146 k) (pl + 1) (by omega) (fun j hj => by have := y4 j hj; omega) y5, jcI_some, e_Analysis_assign_57, nI_1, b4, jcV_some, e_Analysis_assign_76]
theorem c_as_end (g : jG) {I : Nat → Nat → Int32} {J : Nat → Nat → Int64} {n a : Nat} {V : yV} {A : kA} (hB : cB L q P D W su sr F PC PQ g I J) (hs : cZs L g I J 40 (some V)) (hn : nQ L q g I n a) (hb : bS q a) (hk1 : q 138 a = 1) (hA : cR L g I J 47 A) : ∃ I' J', cB L q P D W su sr F PC PQ g I' J' ∧ fZ L 5 sr g g I I' J J' ∧ eH sr I I' ∧ cZs L g I' J' 40 (some (jup V (q 141 a) A)) ∧ jval (d + 8) 9 183 [.ref 39, .ref n, jjunk, jjunk, jjunk, jjunk, jjunk] [] (jGs L g, I, J) = some (none, (jGs L g, I', J')) := by
  obtain ⟨v4, -⟩ := hb.1 hk1
  have k4 : (jGs L g).1 n = 4 := hn.1
  obtain ⟨lv, -⟩ := cZs_v hs
  have kv : gK L g (40 + 2 + q 141 a) = 2 := (lv _ v4).1
  obtain ⟨I1, J1, b1, b2, b3, b4⟩ := c_setB (d + 7) L g hB kv hA
  obtain ⟨B1, Z1, E1⟩ := cB_op (k := 5) hB b2 b1 (Or.inl ⟨by omega, by omega⟩)
  obtain ⟨S1, S2⟩ := cZs_op v4 hs hB.1.1 b2 b3
  refine ⟨I1, J1, B1, Z1, E1, ⟨_, S1, Or.inr ⟨rfl, S2⟩⟩, ?_⟩
  rw [e_Analysis_assign_183, if_pos k4, (hn.2.2.2.2.1 hk1).1, c_at (d + 7) L g (Or.inl rfl) v4, jcR_some, e_Analysis_assign_194a, if_pos (show (jGs L g).1 (40 + 2 + q 141 a) = 2 from kv), b4, jcV_some, e_Analysis_assign_201]
theorem c_as_loop {n a p e : Nat} {V : yV} (hb : bS q a) (hk1 : q 138 a = 1) (he : e ≤ 120) : ∀ f pl k i A (g : jG) (I : Nat → Nat → Int32) (J : Nat → Nat → Int64), cd q f pl k e → i + q 139 a = k → 0 < i → k ≤ e → cB L q P D W su sr F PC PQ g I J → cZs L g I J 40 (some V) → nQ L q g I n a → gR L g su 1 = some p → cR L g I J 47 A → ∃ g' I' J', cB L q P D W su sr F PC PQ g' I' J' ∧ fZ L 5 sr g g' I I' J J' ∧ eH sr I I' ∧ cZs L g' I' J' 40 (some (jup V (q 141 a) (yCh q P V (e - k) k A))) ∧ jval (d + 8) 9 16 [.ref 39, .ref n, .ref p, .int (nI pl), .int (nI i), jjunk, jjunk] [] (jGs L g, I, J) = some (none, (jGs L g', I', J')) := by
  intro f
  induction f with
  | zero => intro pl k i A g I J h; exact h.elim
  | succ f ih =>
    intro pl k i A g I J hcd hik hi0 hke hB hs hn hp hA
    have h120 := hB.2.2.2.2.2.2.2
    by_cases hk : k = e
    · have h59 : pl < q 35 8 ∧ q 38 pl = 59 := by
        obtain ⟨hpl, hx⟩ := hcd
        rcases hx with ⟨-, e2⟩ | ⟨e1, -⟩
        · exact ⟨hpl, e2⟩
        · omega
      obtain ⟨I', J', c1, c2, c3, c4, c5⟩ := c_as_end d L g hB hs hn hb hk1 hA
      refine ⟨g, I', J', c1, c2, c3, by rw [hk, Nat.sub_self]; exact c4, ?_⟩
      obtain ⟨cc, hpg⟩ := cB_pgC hB hp
      have k6 : (jGs L g).1 p = 6 := hpg.1
      by_cases h : 120 ≤ i
      · rw [e_Analysis_assign_16a, jif_t (show (120 : Int32) ≤ nI i from nI_le (a := 120) h (by omega))]
        exact c5
      · rw [e_Analysis_assign_16a, jif_f (show ¬ (120 : Int32) ≤ nI i from nI_ge (b := 120) (by omega) (by omega)), if_pos k6, c_codeAt (d + 7) L g hpg h59.1, jcI_some, e_Analysis_assign_28, h59.2, jif_t (by decide)]
        exact c5
    · obtain ⟨g1, I1, J1, en, b1, b2, b3, b4, b5⟩ := c_part d L g (n := n) (i := i) hB hs hp hcd (by omega) (by omega)
      obtain ⟨B1, Z1, E1⟩ := cB_op (k := 5) hB b2 b1 (by omega)
      have hC := mkI_C hB.1.1
      have A1 : cR L g1 I1 J1 47 A := fX_R b2 hB.1.1 hA (by omega) (by omega)
      have S1 : cZs L g1 I1 J1 40 (some V) := cZs_ne (Or.inl rfl) hs hB.1.1 b2 (by omega)
      have N1 := nQ_f hn hB Z1
      obtain ⟨g2, I2, J2, m1, m2, m3, m4⟩ := c_chain (d + 5) L g1 (out := 47) b1 A1 b3 rfl (by have := Z1.2.2.2; omega)
      obtain ⟨B2, Z2, E2⟩ := cB_op (k := 5) B1 m2 m1 (by omega)
      have S2 : cZs L g2 I2 J2 40 (some V) := cZs_ne (Or.inl rfl) S1 b1 m2 (by omega)
      have hsu : su ≤ g.2.2.2.1 ∧ su ≠ 19 := ⟨hB.2.2.2.1.2.1, by have := hB.2.2.2.1.1; unfold okS at this; omega⟩
      have p2 : gR L g2 su 1 = some p := by
        have := Z1.2.2.2
        rw [gR_cg (Z2.2.2.1 su 1 (by omega) hsu.2), gR_cg (Z1.2.2.1 su 1 hsu.1 hsu.2)]
        exact hp
      obtain ⟨g', I', J', c1, c2, c3, c4, c5⟩ := ih (en + 1) (k + 1) (i + 1) (vChain A (yPt q P V k)) g2 I2 J2 b4 (by omega) (by omega) (by omega) B2 S2 (nQ_f N1 B1 Z2) p2 m3
      refine ⟨g', I', J', c1, fZ_t Z1 (fZ_t Z2 c2), eH_t E1 (eH_t E2 c3), ?_, ?_⟩
      · rw [show e - k = e - (k + 1) + 1 by omega]
        exact c4
      · rw [b5, e_Analysis_assign_134, jif_f (show ¬ nI i = (0 : Int32) from fun e => by have := (nI_eq (b := 0) (by omega) (by omega)).mp e; omega), m4, jcV_some, e_Analysis_assign_177, nI_1, nI_1]
        exact c5
theorem c_assign (g : jG) {I : Nat → Nat → Int32} {J : Nat → Nat → Int64} {n a : Nat} {V : yV} (hB : cB L q P D W su sr F PC PQ g I J) (hs : cZs L g I J 40 (some V)) (hn : nQ L q g I n a) (hb : bS q a) (hk1 : q 138 a = 1) : ∃ g' I' J', cB L q P D W su sr F PC PQ g' I' J' ∧ fZ L 5 sr g g' I I' J J' ∧ eH sr I I' ∧ cZs L g' I' J' 40 (some (jup V (q 141 a) (ySet q P V a))) ∧ jcall (d + 9) 9 [.ref 39, .ref n] (jGs L g, I, J) = some (none, (jGs L g', I', J')) := by
  obtain ⟨v4, lt, le, f, hcd⟩ := hb.1 hk1
  have b44 := hB.2.2.2.2.2.2.1.2.1
  have h120 := hB.2.2.2.2.2.2.2
  have hC := mkI_C hB.1.1
  obtain ⟨p, hp, -⟩ := hB.2.2.2.1.2.2.2.2.2.2
  have k9 : (jGs L g).1 su = 9 := hB.2.2.2.1.2.2.1
  have k4 : (jGs L g).1 n = 4 := hn.1
  have rp : (jGs L g).2.2.1 su 1 = some p := hp
  cases f with
  | zero => exact hcd.elim
  | succ f =>
    obtain ⟨g1, I1, J1, en, b1, b2, b3, b4, b5⟩ := c_part d L g (n := n) (i := 0) hB hs hp hcd lt (by omega)
    obtain ⟨B1, Z1, E1⟩ := cB_op (k := 5) hB b2 b1 (by omega)
    have S1 : cZs L g1 I1 J1 40 (some V) := cZs_ne (Or.inl rfl) hs hB.1.1 b2 (by omega)
    have N1 := nQ_f hn hB Z1
    obtain ⟨I2, J2, m1, m2, m3, m4⟩ := c_setB (d + 7) L g1 (a := 47) B1 rfl b3
    obtain ⟨B2, Z2, E2⟩ := cB_op (k := 5) B1 m2 m1 (by omega)
    have S2 : cZs L g1 I2 J2 40 (some V) := cZs_ne (Or.inl rfl) S1 b1 m2 (by omega)
    have hsu : su ≤ g.2.2.2.1 ∧ su ≠ 19 := ⟨hB.2.2.2.1.2.1, by have := hB.2.2.2.1.1; unfold okS at this; omega⟩
    have p2 : gR L g1 su 1 = some p := by
      rw [gR_cg (Z1.2.2.1 su 1 hsu.1 hsu.2)]
      exact hp
    obtain ⟨g', I', J', c1, c2, c3, c4, c5⟩ := c_as_loop d L (V := V) hb hk1 (e := q 140 a) (by omega) f (en + 1) (q 139 a + 1) 1 _ g1 I2 J2 b4 (by omega) (by omega) (by omega) B2 S2 (nQ_f N1 B1 Z2) p2 m3
    refine ⟨g', I', J', c1, fZ_t Z1 (fZ_t Z2 c2), eH_t E1 (eH_t E2 c3), ?_, ?_⟩
    · unfold ySet
      rw [show q 140 a - q 139 a - 1 = q 140 a - (q 139 a + 1) by omega]
      exact c4
    · rw [c_Analysis_assign, e_Analysis_assign_0, hB.2.1.1, jo_some, if_pos k9, rp, jo_some, if_pos k4, (hn.2.2.2.2.1 hk1).2, show (0 : Int32) = nI 0 from rfl, b5, e_Analysis_assign_134, jif_t (by decide), m4, jcV_some, e_Analysis_assign_155, e_Analysis_assign_177, nI_1, show nI 0 + (1 : Int32) = nI 1 from rfl]
      exact c5
end CC

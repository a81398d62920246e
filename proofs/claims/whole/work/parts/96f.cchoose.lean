/-! ANALYSIS, THE CLASS: a branch, a loop -/
set_option maxRecDepth 100000
theorem jo_blk {d : Nat} {x : Option Nat} {k : Int32} {S : jS} {K : jS → Option (Option Value × jS)} : jo x (jcV (jcall d 8 [.ref 39, .null, .int k] S) K) (fun b => jcV (jcall d 8 [.ref 39, .ref b, .int k] S) K) = jcV (jcall d 8 [.ref 39, jvo x, .int k] S) K := by
  cases x <;> rfl
theorem kept_a (L : Nat) (g : jG) {k : Nat} (hk : k < 5) : (jGs L g).2.2.1 46 (2 * k) = some (51 + 12 * k) ∧ (jGs L g).2.2.1 46 (2 * k + 1) = some (57 + 12 * k) := by
  have : k = 0 ∨ k = 1 ∨ k = 2 ∨ k = 3 ∨ k = 4 := by omega
  rcases this with e | e | e | e | e <;> subst e <;> exact ⟨rfl, rfl⟩
theorem kept_s {k : Nat} (hk : k < 5) : stA (51 + 12 * k) ∧ stA (57 + 12 * k) := ⟨Or.inr ⟨2 * k, by omega, by omega⟩, Or.inr ⟨2 * k + 1, by omega, by omega⟩⟩
section CC
variable (d L : Nat) (q : Nat → Nat → Nat) (P : Nat → kA) (D W su sr F PC PQ : Nat)
/-- what a block does -/
def bdy (k : Nat) (x : Option Nat) (X : jG → (Nat → Nat → Int32) → Prop) (Bf : Option yV → yG → Option yV × yG) : Prop := ∀ s G (g : jG) (I : Nat → Nat → Int32) (J : Nat → Nat → Int64), cB L q P D W su sr F PC PQ g I J → cZs L g I J 40 s → cG q G sr I → X g I → ∃ g' I' J', cB L q P D W su sr F PC PQ g' I' J' ∧ fZ L (k + 1) sr g g' I I' J J' ∧ cZs L g' I' J' 40 (Bf s G).1 ∧ cG q (Bf s G).2 sr I' ∧ jcall (d + 6) 8 [.ref 39, jvo x, .int (nI (k + 1))] (jGs L g, I, J) = some (none, (jGs L g', I', J'))
/-- what stays under the analysis -/
def sXt (X : jG → (Nat → Nat → Int32) → Prop) : Prop := ∀ k (g g1 : jG) (I I1 : Nat → Nat → Int32) (J J1 : Nat → Nat → Int64), cB L q P D W su sr F PC PQ g I J → fZ L k sr g g1 I I1 J J1 → X g I → X g1 I1
end CC
section CC
variable (d L : Nat) {q : Nat → Nat → Nat} {P : Nat → kA} {D W su sr F PC PQ : Nat}
/-- the second part's result joined to the first's -/
theorem c_ch_90 (g : jG) {I : Nat → Nat → Int32} {J : Nat → Nat → Int64} {k : Nat} {s t : Option yV} {G : yG} (hk : k < 5) (hB : cB L q P D W su sr F PC PQ g I J) (hs : cZs L g I J (57 + 12 * k) s) (ht : cZs L g I J 40 t) (hG : cG q G sr I) : ∃ g' I' J', cB L q P D W su sr F PC PQ g' I' J' ∧ fZ L k sr g g' I I' J J' ∧ cZs L g' I' J' 40 (yJn s t) ∧ cG q G sr I' ∧ jval (d + 6) 12 90 [.ref 39, jjunk, jjunk, jjunk, .ref (57 + 12 * k), jjunk] [] (jGs L g, I, J) = some (none, (jGs L g', I', J')) := by
  have h40 : stA 40 := Or.inl rfl
  have h57 := (kept_s hk).2
  have k10 : (jGs L g).1 (57 + 12 * k) = 10 := (stA_f L g h57).1
  cases t with
  | none =>
    have i0 : I 40 1 = (0 : Int32) := by
      obtain ⟨V, -, h2⟩ := ht
      rcases h2 with ⟨_, e⟩ | ⟨e, _⟩
      · exact e
      · cases e
    obtain ⟨I1, J1, b1, b2, b3, b4, b5, b6⟩ := c_stSetB (d + 4) L g (s := 40) (t := 57 + 12 * k) (k := k) h40 h57 (by omega) (Or.inl rfl) hB hs
    refine ⟨g, I1, J1, b1, b2, ?_, cG_e hG b3, ?_⟩
    · cases s <;> exact b4
    · rw [e_Analysis_choose_90, jif_t i0, b6, jcV_some, e_Analysis_choose_109, e_Analysis_choose_167]
  | some Wv =>
    obtain ⟨lw, i1⟩ := cZs_v ht
    cases s with
    | none =>
      have i0 : I (57 + 12 * k) 1 = (0 : Int32) := by
        obtain ⟨V, -, h2⟩ := hs
        rcases h2 with ⟨_, e⟩ | ⟨e, _⟩
        · exact e
        · cases e
      refine ⟨g, I, J, hB, fZ_r, ht, hG, ?_⟩
      rw [e_Analysis_choose_90, jif_f (by rw [i1]; decide), if_pos k10, jif_t i0, e_Analysis_choose_167]
    | some V =>
      obtain ⟨lv, i57⟩ := cZs_v hs
      have loop : ∀ m v (g : jG) (I : Nat → Nat → Int32) (J : Nat → Nat → Int64), v + m = 4 → cB L q P D W su sr F PC PQ g I J → cZs L g I J (57 + 12 * k) (some V) → (∀ w, w < 4 → cR L g I J (40 + 2 + w) (if w < v then vPair 0 (V w) (Wv w) else Wv w)) → I 40 1 = nI 1 → ∃ g' I' J', cB L q P D W su sr F PC PQ g' I' J' ∧ fZ L k sr g g' I I' J J' ∧ eH sr I I' ∧ cZs L g' I' J' 40 (yJn (some V) (some Wv)) ∧ jval (d + 6) 12 123 [.ref 39, jjunk, jjunk, jjunk, .ref (57 + 12 * k), .int (nI v)] [] (jGs L g, I, J) = some (none, (jGs L g', I', J')) := by
        intro m
        induction m with
        | zero =>
          intro v g I J hm hB hs hH h1
          have e : v = 4 := by omega
          subst e
          refine ⟨g, I, J, hB, fZ_r, eH_r, ⟨_, fun w hw => ?_, Or.inr ⟨rfl, h1⟩⟩, ?_⟩
          · have := hH w hw
            rw [if_pos hw] at this
            exact this
          · rw [e_Analysis_choose_123, jif_t (show (4 : Int32) ≤ nI 4 from Int32.le_refl _), e_Analysis_choose_167]
        | succ m ih =>
          intro v g I J hm hB hs hH h1
          have hv : v < 4 := by omega
          have hC := mkI_C hB.1.1
          obtain ⟨lv, -⟩ := cZs_v hs
          have hHv := hH v hv
          rw [if_neg (Nat.lt_irrefl v)] at hHv
          have k10 : (jGs L g).1 (57 + 12 * k) = 10 := (stA_f L g h57).1
          obtain ⟨g1, I1, J1, b1, b2, b3, b4⟩ := c_join (d + 3) L g (a := 40 + 2 + v) (b := 57 + 12 * k + 2 + v) (out := 40 + 2 + v) hB.1.1 hHv (lv v hv) hHv.1 (by omega)
          obtain ⟨B1, Z1, E1⟩ := cB_op (k := k) hB b2 b1 (Or.inl ⟨by omega, by omega⟩)
          obtain ⟨g', I', J', c1, c2, c3, c4, c5⟩ := ih (v + 1) g1 I1 J1 (by omega) B1 (cZs_ne h57 hs hB.1.1 b2 (by omega)) (fun w hw => by
            by_cases e : w = v
            · rw [e, if_pos (by omega), vPair_comm]; exact b3
            · have := fX_R b2 hB.1.1 (hH w hw) (by omega) (by omega)
              by_cases hlt : w < v
              · rw [if_pos hlt] at this; rw [if_pos (by omega)]; exact this
              · rw [if_neg hlt] at this; rw [if_neg (by omega)]; exact this) (by rw [fX_s h40 hB.1.1 b2 (by omega)]; exact h1)
          refine ⟨g', I', J', c1, fZ_t Z1 c2, eH_t E1 c3, c4, ?_⟩
          rw [e_Analysis_choose_123, jif_f (show ¬ (4 : Int32) ≤ nI v from nI_ge (b := 4) (by omega) (by omega)), c_at (d + 5) L g h40 hv, jcR_some, e_Analysis_choose_142a, if_pos k10, c_at (d + 5) L g h57 hv, jcR_some, e_Analysis_choose_149c, c_at (d + 5) L g h40 hv, jcR_some, e_Analysis_choose_158g, b4, jcV_some, e_Analysis_choose_161, nI_1]
          exact c5
      obtain ⟨g', I', J', c1, c2, c3, c4, c5⟩ := loop 4 0 g I J (by omega) hB hs (fun w hw => by rw [if_neg (by omega)]; exact lw w hw) i1
      refine ⟨g', I', J', c1, c2, c4, cG_e hG c3, ?_⟩
      rw [e_Analysis_choose_90, jif_f (by rw [i1]; decide), if_pos k10, jif_f (by rw [i57]; decide), show (0 : Int32) = nI 0 from rfl]
      exact c5
theorem c_choose (g : jG) {I : Nat → Nat → Int32} {J : Nat → Nat → Int64} {k n a : Nat} {V : yV} {G : yG} {x1 x2 : Option Nat} {X1 X2 : jG → (Nat → Nat → Int32) → Prop} {f1 f2 : Option yV → yG → Option yV × yG} (hk : k < 5) (hB : cB L q P D W su sr F PC PQ g I J) (hs : cZs L g I J 40 (some V)) (hG : cG q G sr I) (hn : nQ L q g I n a) (hb : bS q a) (hkd : q 138 a = 4 ∨ q 138 a = 5) (s1 : sXt L q P D W su sr F PC PQ X1) (s2 : sXt L q P D W su sr F PC PQ X2) (hX1 : X1 g I) (hX2 : X2 g I) (r1 : ∀ g I, X1 g I → gR L g n 4 = x1) (r2 : ∀ g I, X2 g I → gR L g n 5 = x2) (hd1 : bdy d L q P D W su sr F PC PQ k x1 X1 f1) (hd2 : bdy d L q P D W su sr F PC PQ k x2 X2 f2) : ∃ g' I' J', cB L q P D W su sr F PC PQ g' I' J' ∧ fZ L k sr g g' I I' J J' ∧ cZs L g' I' J' 40 (yJn (f1 (yTs 1 q P a V) G).1 (f2 (yTs 2 q P a V) (f1 (yTs 1 q P a V) G).2).1) ∧ cG q (f2 (yTs 2 q P a V) (f1 (yTs 1 q P a V) G).2).2 sr I' ∧ jcall (d + 7) 12 [.ref 39, .ref n, .int (nI k)] (jGs L g, I, J) = some (none, (jGs L g', I', J')) := by
  have h40 : stA 40 := Or.inl rfl
  obtain ⟨h51, h57⟩ := kept_s hk
  have hsr := hB.2.2.1.2.2.2.1
  obtain ⟨I1, J1, B1, Z1, E1, S1, O1, v1⟩ := c_stSetB (d + 4) L g (s := 51 + 12 * k) (t := 40) (k := k) h51 h40 (by omega) (Or.inr (Nat.le_refl _)) hB hs
  have N1 := nQ_f hn hB Z1
  have T1 := O1 40 _ h40 (by omega) hs
  obtain ⟨g2, I2, J2, B2, Z2, E2, T2, v2⟩ := c_narrow (d + 1) L g (m := 1) (Or.inl rfl) B1 T1 N1.1 N1.2.2.2 hb (by omega) (by omega)
  have N2 := nQ_f N1 B1 Z2
  have S2 := cZs_f h51 S1 B1.1.1 (fZ_w Z2 (show k + 1 ≤ 5 by omega)) (by omega) (by omega) hsr
  have X12 : X1 g2 I2 := s1 5 g g2 I1 I2 J1 J2 B1 Z2 (s1 k g g I I1 J J1 hB Z1 hX1)
  have X22 : X2 g2 I2 := s2 5 g g2 I1 I2 J1 J2 B1 Z2 (s2 k g g I I1 J J1 hB Z1 hX2)
  obtain ⟨g3, I3, J3, B3, Z3, T3, G3, v3⟩ := hd1 _ G g2 I2 J2 B2 T2 (cG_e (cG_e hG E1) E2) X12
  have N3 := nQ_f N2 B2 Z3
  have S3 := cZs_f h51 S2 B2.1.1 Z3 (by omega) (by omega) hsr
  have X23 := s2 _ g2 g3 I2 I3 J2 J3 B2 Z3 X22
  obtain ⟨I4, J4, B4, Z4, E4, U4, O4, v4⟩ := c_stSetB (d + 4) L g3 (s := 57 + 12 * k) (t := 40) (k := k) h57 h40 (by omega) (Or.inr (by omega)) B3 T3
  have N4 := nQ_f N3 B3 Z4
  have S4 := O4 _ _ h51 (by omega) S3
  have X24 := s2 _ g3 g3 I3 I4 J3 J4 B3 Z4 X23
  obtain ⟨I5, J5, B5, Z5, E5, T5, O5, v5⟩ := c_stSetB (d + 4) L g3 (s := 40) (t := 51 + 12 * k) (k := k) h40 h51 (by omega) (Or.inl rfl) B4 S4
  have N5 := nQ_f N4 B4 Z5
  have U5 := O5 _ _ h57 (by omega) U4
  have X25 := s2 _ g3 g3 I4 I5 J4 J5 B4 Z5 X24
  obtain ⟨g6, I6, J6, B6, Z6, E6, T6, v6⟩ := c_narrow (d + 1) L g3 (m := 2) (Or.inr rfl) B5 T5 N5.1 N5.2.2.2 hb (by omega) (by omega)
  have N6 := nQ_f N5 B5 Z6
  have U6 := cZs_f h57 U5 B5.1.1 (fZ_w Z6 (show k + 1 ≤ 5 by omega)) (by omega) (by omega) hsr
  have X26 := s2 _ g3 g6 I5 I6 J5 J6 B5 Z6 X25
  obtain ⟨g7, I7, J7, B7, Z7, T7, G7, v7⟩ := hd2 _ _ g6 I6 J6 B6 T6 (cG_e (cG_e (cG_e G3 E4) E5) E6) X26
  have U7 := cZs_f h57 U6 B6.1.1 Z7 (by omega) (by omega) hsr
  obtain ⟨g8, I8, J8, B8, Z8, T8, G8, v8⟩ := c_ch_90 d L g7 hk B7 U7 T7 G7
  refine ⟨g8, I8, J8, B8, fZ_t Z1 (fZ_t (fZ_w Z2 (by omega)) (fZ_t (fZ_w Z3 (by omega)) (fZ_t Z4 (fZ_t Z5 (fZ_t (fZ_w Z6 (by omega)) (fZ_t (fZ_w Z7 (by omega)) Z8)))))), T8, G8, ?_⟩
  obtain ⟨a1, a2⟩ := kept_a L g hk
  have e2 : (2 : Int32) * nI k = nI (2 * k) := by rw [show (2 : Int32) = nI 2 from rfl, nI_mul]
  rw [c_Analysis_choose, e_Analysis_choose_0, jif_f (nI_pos (by omega)), jif_t (show nI k < (5 : Int32) from Eq.mpr (zi_lt (b := 5) (by omega) (by omega)) hk), e2, jin_nI (by omega) (by omega), cond_true, nI_c (by omega), a1, jo_some, nI_1, jin_nI (by omega) (by omega), cond_true, nI_c (by omega), a2, jo_some, if_pos (show (jGs L g).1 (51 + 12 * k) = 10 from (stA_f L g h51).1), v1, jcV_some, e_Analysis_choose_39a, show (1 : Int32) = nI (2 - 1) from rfl, v2, jcV_some, e_Analysis_choose_45a, if_pos (show (jGs L g2).1 n = 4 from N2.1), jo_blk, show (jGs L g2).2.2.1 n 4 = x1 from r1 _ _ X12, nI_1, v3, jcV_some, e_Analysis_choose_56a, if_pos (show (jGs L g3).1 (57 + 12 * k) = 10 from (stA_f L g3 h57).1), v4, jcV_some, e_Analysis_choose_65, v5, jcV_some, e_Analysis_choose_73, show (0 : Int32) = nI (2 - 2) from rfl, v6, jcV_some, e_Analysis_choose_79, if_pos (show (jGs L g6).1 n = 4 from N6.1), jo_blk, show (jGs L g6).2.2.1 n 5 = x2 from r2 _ _ X26, nI_1, v7, jcV_some]
  exact v8
/-- behind a loop's rounds -/
theorem jmx_nI {a b : Nat} (ha : a ≤ 25) (hb : b ≤ 25) : jmx (nI a) (nI b) = nI (max a b) := by
  unfold jmx
  by_cases h : a < b
  · rw [jif_t (Eq.mpr (zi_lt (by omega) (by omega)) h), show max a b = b by omega]
  · rw [jif_f (fun e => h (Eq.mp (zi_lt (by omega) (by omega)) e)), show max a b = a by omega]
theorem c_lp_103 (g : jG) {I : Nat → Nat → Int32} {J : Nat → Nat → Int64} {k n a r : Nat} {H : yV} {G : yG} (hk : k < 5) (hr : r ≤ 25) (hB : cB L q P D W su sr F PC PQ g I J) (hs : cZs L g I J (51 + 12 * k) (some H)) (hG : cG q G sr I) (hn : nQ L q g I n a) (hb : bS q a) (hkd : q 138 a = 6 ∨ q 138 a = 7) : ∃ g' I' J', cB L q P D W su sr F PC PQ g' I' J' ∧ fZ L k sr g g' I I' J J' ∧ cZs L g' I' J' 40 (yTs 2 q P a H) ∧ cG q (yRn r G) sr I' ∧ jval (d + 6) 13 103 [.ref 39, .ref n, jjunk, .ref (51 + 12 * k), jjunk, .int (nI r)] [] (jGs L g, I, J) = some (none, (jGs L g', I', J')) := by
  have h40 : stA 40 := Or.inl rfl
  obtain ⟨h51, h57⟩ := kept_s hk
  have hsr := hB.2.2.1.2.2.2.1
  obtain ⟨g1, g2, g3, g4⟩ := hG
  have i1 : ju (ju I 39 7 (I 39 7 + nI r)) 39 8 (jmx (I 39 8) (nI r)) = ju (ju I 39 7 (nI (G.1 + r))) 39 8 (nI (max G.2.1 r)) := by rw [g1, g2, nI_add, jmx_nI g3 hr]
  generalize hI1 : ju (ju I 39 7 (nI (G.1 + r))) 39 8 (nI (max G.2.1 r)) = I1 at *
  have o1 : ∀ y, y ≠ 39 → I1 y = I y := fun y hy => by rw [← hI1, ju_n hy, ju_n hy]
  obtain ⟨B1, Z1⟩ := cB_o (k := k) (I1 := I1) (J1 := J) hB (fun y hy => ⟨o1 y (by unfold zX at hy; omega), rfl⟩)
  have G1 : cG q (yRn r G) sr I1 := by
    refine ⟨by rw [← hI1, zu_k (by omega), zu_at]; rfl, by rw [← hI1, zu_at]; rfl, by show max G.2.1 r ≤ 25; omega, fun j hj => ?_⟩
    unfold cRa
    rw [o1 49 (by omega), o1 sr (by omega)]
    exact g4 j hj
  have S1 : cZs L g I1 J (51 + 12 * k) (some H) := cZs_fr hs (fun a y1 y2 => ⟨o1 a (by omega), rfl⟩)
  obtain ⟨I2, J2, B2, Z2, E2, T2, O2, v2⟩ := c_stSetB (d + 4) L g (s := 40) (t := 51 + 12 * k) (k := k) h40 h51 (by omega) (Or.inl rfl) B1 S1
  have N2 := nQ_f (nQ_f hn hB Z1) B1 Z2
  obtain ⟨g6, I6, J6, B6, Z6, E6, T6, v6⟩ := c_narrow (d + 1) L g (m := 2) (Or.inr rfl) B2 T2 N2.1 N2.2.2.2 hb (by omega) (by omega)
  refine ⟨g6, I6, J6, B6, fZ_t Z1 (fZ_t Z2 (fZ_w Z6 (by omega))), T6, cG_e (cG_e G1 E2) E6, ?_⟩
  rw [e_Analysis_loop_103, i1, v2, jcV_some, e_Analysis_loop_135, show (0 : Int32) = nI (2 - 2) from rfl, v6, jcV_some, e_Analysis_loop_141]
theorem c_lp {k n a : Nat} {x : Option Nat} {X : jG → (Nat → Nat → Int32) → Prop} {Bf : Option yV → yG → Option yV × yG} (hk : k < 5) (hb : bS q a) (hkd : q 138 a = 6 ∨ q 138 a = 7) (sx : sXt L q P D W su sr F PC PQ X) (rx : ∀ g I, X g I → gR L g n 4 = x) (hd : bdy d L q P D W su sr F PC PQ k x X Bf) : ∀ m r H G (g : jG) (I : Nat → Nat → Int32) (J : Nat → Nat → Int64), m + r = 25 → cB L q P D W su sr F PC PQ g I J → cZs L g I J (51 + 12 * k) (some H) → cG q G sr I → nQ L q g I n a → X g I → ∃ g' I' J', cB L q P D W su sr F PC PQ g' I' J' ∧ fZ L k sr g g' I I' J J' ∧ cZs L g' I' J' 40 (yTs 2 q P a (yLoop Bf (yTs 1 q P a) D W m r H G).1) ∧ cG q (yRn (yLoop Bf (yTs 1 q P a) D W m r H G).2.2 (yLoop Bf (yTs 1 q P a) D W m r H G).2.1) sr I' ∧ jval (d + 6) 13 33 [.ref 39, .ref n, .int (nI k), .ref (51 + 12 * k), .int (0 : Int32), .int (nI r)] [] (jGs L g, I, J) = some (none, (jGs L g', I', J')) := by
  have h40 : stA 40 := Or.inl rfl
  obtain ⟨h51, h57⟩ := kept_s hk
  intro m
  induction m with
  | zero =>
    intro r H G g I J hm hB hs hG hn hX
    obtain ⟨g', I', J', c1, c2, c3, c4, c5⟩ := c_lp_103 d L g hk (show r ≤ 25 by omega) hB hs hG hn hb hkd
    refine ⟨g', I', J', c1, c2, c3, c4, ?_⟩
    rw [e_Analysis_loop_33, jif_t (show (25 : Int32) ≤ nI r from nI_le (a := 25) (by omega) (by omega))]
    exact c5
  | succ m ih =>
    intro r H G g I J hm hB hs hG hn hX
    have hsr := hB.2.2.1.2.2.2.1
    obtain ⟨I1, J1, B1, Z1, E1, T1, O1, v1⟩ := c_stSetB (d + 4) L g (s := 40) (t := 51 + 12 * k) (k := k) h40 h51 (by omega) (Or.inl rfl) hB hs
    have S1 := O1 _ _ h51 (by omega) hs
    have N1 := nQ_f hn hB Z1
    obtain ⟨g2, I2, J2, B2, Z2, E2, T2, v2⟩ := c_narrow (d + 1) L g (m := 1) (Or.inl rfl) B1 T1 N1.1 N1.2.2.2 hb (by omega) (by omega)
    have N2 := nQ_f N1 B1 Z2
    have S2 := cZs_f h51 S1 B1.1.1 (fZ_w Z2 (show k + 1 ≤ 5 by omega)) (by omega) (by omega) hsr
    have X2 : X g2 I2 := sx 5 g g2 I1 I2 J1 J2 B1 Z2 (sx k g g I I1 J J1 hB Z1 hX)
    obtain ⟨g3, I3, J3, B3, Z3, T3, G3, v3⟩ := hd _ G g2 I2 J2 B2 T2 (cG_e (cG_e hG E1) E2) X2
    have N3 := nQ_f N2 B2 Z3
    have S3 := cZs_f h51 S2 B2.1.1 Z3 (by omega) (by omega) hsr
    have X3 := sx _ g2 g3 I2 I3 J2 J3 B2 Z3 X2
    have Z13 := fZ_t Z1 (fZ_t (fZ_w Z2 (show k ≤ 5 by omega)) (fZ_w Z3 (show k ≤ k + 1 by omega)))
    have un : yLoop Bf (yTs 1 q P a) D W (m + 1) r H G = if yMore H (Bf (yTs 1 q P a H) G).1 = true then yLoop Bf (yTs 1 q P a) D W m (r + 1) (yNxt D W r H (Bf (yTs 1 q P a H) G).1) (Bf (yTs 1 q P a H) G).2 else (H, (Bf (yTs 1 q P a H) G).2, r + 1) := by
      show (match Bf (yTs 1 q P a H) G with
        | (none, G1) => (H, G1, r + 1)
        | (some V, G1) => if yOt H V 4 = true then yLoop Bf (yTs 1 q P a) D W m (r + 1) (fun v => if v < 4 then yG1 D W r H V v else H v) G1 else (H, G1, r + 1)) = _
      rcases Bf (yTs 1 q P a H) G with ⟨s', G'⟩
      cases s' with
      | none => rfl
      | some V => rfl
    have start : jval (d + 6) 13 33 [.ref 39, .ref n, .int (nI k), .ref (51 + 12 * k), .int (0 : Int32), .int (nI r)] [] (jGs L g, I, J) = jval (d + 6) 13 70 [.ref 39, .ref n, .int (nI k), .ref (51 + 12 * k), jjunk, .int (nI r)] [] (jGs L g3, I3, J3) := by
      rw [e_Analysis_loop_33, jif_f (show ¬ (25 : Int32) ≤ nI r from nI_ge (b := 25) (by omega) (by omega)), jif_t rfl, v1, jcV_some, e_Analysis_loop_53, show (1 : Int32) = nI (2 - 1) from rfl, v2, jcV_some, e_Analysis_loop_59, if_pos (show (jGs L g2).1 n = 4 from N2.1), jo_blk, show (jGs L g2).2.2.1 n 4 = x from rx _ _ X2, nI_1, v3, jcV_some]
    -- the last round
    have last : ∀ (g4 : jG) (I4 : Nat → Nat → Int32) (J4 : Nat → Nat → Int64), cB L q P D W su sr F PC PQ g4 I4 J4 → fZ L k sr g g4 I I4 J J4 → cZs L g4 I4 J4 (51 + 12 * k) (some H) → cG q (Bf (yTs 1 q P a H) G).2 sr I4 → nQ L q g4 I4 n a → ∃ g' I' J', cB L q P D W su sr F PC PQ g' I' J' ∧ fZ L k sr g g' I I' J J' ∧ cZs L g' I' J' 40 (yTs 2 q P a H) ∧ cG q (yRn (r + 1) (Bf (yTs 1 q P a H) G).2) sr I' ∧ jval (d + 6) 13 90 [.ref 39, .ref n, .int (nI k), .ref (51 + 12 * k), jjunk, .int (nI r)] [] (jGs L g4, I4, J4) = some (none, (jGs L g', I', J')) := by
      intro g4 I4 J4 B4 Z4 S4 G4 N4
      obtain ⟨g', I', J', c1, c2, c3, c4, c5⟩ := c_lp_103 d L g4 hk (show r + 1 ≤ 25 by omega) B4 S4 G4 N4 hb hkd
      refine ⟨g', I', J', c1, fZ_t Z4 c2, c3, c4, ?_⟩
      rw [e_Analysis_loop_90, e_Analysis_loop_95, nI_1, e_Analysis_loop_33]
      by_cases h25 : 25 ≤ r + 1
      · rw [jif_t (show (25 : Int32) ≤ nI (r + 1) from nI_le (a := 25) h25 (by omega))]
        exact c5
      · rw [jif_f (show ¬ (25 : Int32) ≤ nI (r + 1) from nI_ge (b := 25) (by omega) (by omega)), jif_f (by decide)]
        exact c5
    rw [start, un]
    generalize hs' : (Bf (yTs 1 q P a H) G).1 = s' at *
    cases s' with
    | none =>
      have i0 : I3 40 1 = (0 : Int32) := by
        obtain ⟨V, -, h2⟩ := T3
        rcases h2 with ⟨_, e⟩ | ⟨e, _⟩
        · exact e
        · cases e
      rw [if_neg (show ¬ yMore H none = true from fun e => Bool.noConfusion e), e_Analysis_loop_70, jif_t i0]
      exact last g3 I3 J3 B3 Z13 S3 G3 N3
    | some V =>
      obtain ⟨-, i1⟩ := cZs_v T3
      obtain ⟨g4, I4, J4, B4, Z4, E4, S4, v4⟩ := c_grow (d + 1) L g3 hk (show r < 25 by omega) B3 T3 S3
      have N4 := nQ_f N3 B3 Z4
      have X4 := sx _ g3 g4 I3 I4 J3 J4 B3 Z4 X3
      rw [e_Analysis_loop_70, jif_f (by rw [i1]; decide), v4, jcI_some, e_Analysis_loop_87]
      by_cases hm' : yMore H (some V) = true
      · have hot : yOt H V 4 = true := hm'
        rw [if_pos hm', hot, jif_f (by decide), e_Analysis_loop_95, nI_1]
        obtain ⟨g', I', J', c1, c2, c3, c4, c5⟩ := ih (r + 1) _ _ g4 I4 J4 (by omega) B4 S4 (cG_e G3 E4) N4 X4
        exact ⟨g', I', J', c1, fZ_t Z13 (fZ_t Z4 c2), c3, c4, c5⟩
      · have hot : yOt H V 4 = false := Bool.eq_false_iff.mpr hm'
        rw [if_neg hm', hot, jif_t (by decide)]
        rw [yNxt_no (s := some V) hot] at S4
        exact last g4 I4 J4 B4 (fZ_t Z13 Z4) S4 (cG_e G3 E4) N4
theorem c_aloop (g : jG) {I : Nat → Nat → Int32} {J : Nat → Nat → Int64} {k n a : Nat} {V : yV} {G : yG} {x : Option Nat} {X : jG → (Nat → Nat → Int32) → Prop} {Bf : Option yV → yG → Option yV × yG} (hk : k < 5) (hB : cB L q P D W su sr F PC PQ g I J) (hs : cZs L g I J 40 (some V)) (hG : cG q G sr I) (hn : nQ L q g I n a) (hb : bS q a) (hkd : q 138 a = 6 ∨ q 138 a = 7) (sx : sXt L q P D W su sr F PC PQ X) (hX : X g I) (rx : ∀ g I, X g I → gR L g n 4 = x) (hd : bdy d L q P D W su sr F PC PQ k x X Bf) : ∃ g' I' J', cB L q P D W su sr F PC PQ g' I' J' ∧ fZ L k sr g g' I I' J J' ∧ cZs L g' I' J' 40 (yTs 2 q P a (yLoop Bf (yTs 1 q P a) D W 25 0 V G).1) ∧ cG q (yRn (yLoop Bf (yTs 1 q P a) D W 25 0 V G).2.2 (yLoop Bf (yTs 1 q P a) D W 25 0 V G).2.1) sr I' ∧ jcall (d + 7) 13 [.ref 39, .ref n, .int (nI k)] (jGs L g, I, J) = some (none, (jGs L g', I', J')) := by
  have h40 : stA 40 := Or.inl rfl
  obtain ⟨h51, h57⟩ := kept_s hk
  obtain ⟨I1, J1, B1, Z1, E1, S1, O1, v1⟩ := c_stSetB (d + 4) L g (s := 51 + 12 * k) (t := 40) (k := k) h51 h40 (by omega) (Or.inr (Nat.le_refl _)) hB hs
  obtain ⟨g', I', J', c1, c2, c3, c4, c5⟩ := c_lp d L hk hb hkd sx rx hd 25 0 V G g I1 J1 (by omega) B1 S1 (cG_e hG E1) (nQ_f hn hB Z1) (sx _ _ _ _ _ _ _ hB Z1 hX)
  refine ⟨g', I', J', c1, fZ_t Z1 c2, c3, c4, ?_⟩
  obtain ⟨a1, a2⟩ := kept_a L g hk
  have e2 : (2 : Int32) * nI k = nI (2 * k) := by rw [show (2 : Int32) = nI 2 from rfl, nI_mul]
  rw [c_Analysis_loop, e_Analysis_loop_0, jif_f (nI_pos (by omega)), jif_t (show nI k < (5 : Int32) from Eq.mpr (zi_lt (b := 5) (by omega) (by omega)) hk), e2, jin_nI (by omega) (by omega), cond_true, nI_c (by omega), a1, jo_some, if_pos (show (jGs L g).1 (51 + 12 * k) = 10 from (stA_f L g h51).1), v1, jcV_some, e_Analysis_loop_27]
  exact c5
end CC

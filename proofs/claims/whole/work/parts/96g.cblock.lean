/-! ANALYSIS, THE CLASS: a block; all of it -/
set_option maxRecDepth 100000
theorem e_ablk (d L : Nat) (g : jG) (I : Nat → Nat → Int32) (J : Nat → Nat → Int64) (x : Option Nat) (k : Int32) : jcall (d + 1) 8 [.ref 39, jvo x, .int k] (jGs L g, I, J) = jval d 8 2 [.ref 39, jjunk, .int k, jvo x, jjunk] [] (jGs L g, I, J) := by
  cases x with
  | none => exact (show jcall (d + 1) 8 [.ref 39, .null, .int k] (jGs L g, I, J) = jval d 8 0 [.ref 39, .null, .int k, jjunk, jjunk] [] (jGs L g, I, J) from rfl).trans ((jgo ps_Analysis_block 400 d 0 _ _ _ rfl rfl rfl rfl rfl).trans rfl)
  | some a => exact (c_Analysis_block d a k _).trans (e_Analysis_block_0 d L g I J a k)
theorem jo_nxt {d : Nat} {x : Option Nat} {k : Int32} {S : jS} : jo x (jval d 8 2 [.ref 39, jjunk, .int k, .null, jjunk] [] S) (fun b => jval d 8 2 [.ref 39, jjunk, .int k, .ref b, jjunk] [] S) = jval d 8 2 [.ref 39, jjunk, .int k, jvo x, jjunk] [] S := by
  cases x <;> rfl
theorem nd_fz {L : Nat} {q : Nat → Nat → Nat} {P : Nat → kA} {D W su sr F PC PQ k0 : Nat} {g g1 : jG} {I I1 : Nat → Nat → Int32} {J J1 : Nat → Nat → Int64} (hB : cB L q P D W su sr F PC PQ g I J) (hf : fZ L k0 sr g g1 I I1 J J1) {f k lo a b : Nat} {x : Option Nat} (hlo : 170 ≤ lo) (h : nd L q g I g.2.2.2.1 f k lo x a b) : nd L q g1 I1 g1.2.2.2.1 f k lo x a b := by
  refine nd_k hf.2.2.2 f k lo x a b (fun n y1 y2 y3 => ?_) h
  have hs : n ≠ sr := fun e => by rw [e, hB.2.2.1.2.1] at y3; omega
  have e := ((hf.1 n y2 (mkO_K hB.1.1 (by omega) (by omega) (by omega) (by omega))).1 (by unfold zX; omega)).1
  exact ⟨fun k => by rw [e], (hf.2.1 n y2).1, hf.2.2.1 n 4 y2 (by omega), hf.2.2.1 n 5 y2 (by omega), hf.2.2.1 n 6 y2 (by omega)⟩
section CC
variable (d L : Nat) {q : Nat → Nat → Nat} {P : Nat → kA} {D W su sr F PC PQ : Nat}
theorem c_bl_2 (g : jG) {I : Nat → Nat → Int32} {J : Nat → Nat → Int64} {n a k s : Nat} (kn : gK L g n = 4) (i1 : I 40 1 = nI 1) (h0 : I n 0 = nI (sgO s)) (h1 : 1 ≤ s) (h7 : s ≤ 7) : jval d 8 2 [.ref 39, jjunk, .int (nI k), .ref n, jjunk] [] (jGs L g, I, J) = jval d 8 (if s = 1 then 72 else if s = 2 then 80 else if s = 3 then 115 else if s = 4 then 123 else if s = 5 then 123 else 132) [.ref 39, jjunk, .int (nI k), .ref n, jjunk] [] (jGs L g, I, J) := by
  rw [e_Analysis_block_2, jif_f (by rw [i1]; decide), if_pos (show (jGs L g).1 n = 4 from kn), h0]
  have hc : s = 1 ∨ s = 2 ∨ s = 3 ∨ s = 4 ∨ s = 5 ∨ s = 6 ∨ s = 7 := by omega
  rcases hc with e | e | e | e | e | e | e <;> subst e
  · rw [jif_f (by decide), jif_f (by decide), jif_f (by decide), jif_t (by decide)]; rfl
  · rw [jif_f (by decide), jif_f (by decide), jif_t (by decide)]; rfl
  · rw [jif_t (by decide)]; rfl
  · rw [jif_f (by decide), jif_f (by decide), jif_f (by decide), jif_f (by decide), jif_t (by decide)]; rfl
  · rw [jif_f (by decide), jif_t (by decide)]; rfl
  · rw [jif_f (by decide), jif_f (by decide), jif_f (by decide), jif_f (by decide), jif_f (by decide)]; rfl
  · rw [jif_f (by decide), jif_f (by decide), jif_f (by decide), jif_f (by decide), jif_f (by decide)]; rfl
theorem c_ana : ∀ f e k lo x a b s G (g : jG) (I : Nat → Nat → Int32) (J : Nat → Nat → Int64), e + k = 5 → nd L q g I g.2.2.2.1 f k lo x a b → 170 ≤ lo → b ≤ q 117 35 → cB L q P D W su sr F PC PQ g I J → cZs L g I J 40 s → cG q G sr I → ∃ g' I' J', cB L q P D W su sr F PC PQ g' I' J' ∧ fZ L k sr g g' I I' J J' ∧ cZs L g' I' J' 40 (yBlk q P D W f a b s G).1 ∧ cG q (yBlk q P D W f a b s G).2 sr I' ∧ jval (d + 2 * e + 9) 8 2 [.ref 39, jjunk, .int (nI k), jvo x, jjunk] [] (jGs L g, I, J) = some (none, (jGs L g', I', J')) := by
  intro f
  induction f with
  | zero =>
    intro e k lo x a b s G g I J hek h hlo hb hB hs hG
    obtain ⟨e1, -⟩ := h
    subst e1
    refine ⟨g, I, J, hB, fZ_r, hs, hG, ?_⟩
    show jval (d + 2 * e + 9) 8 2 [.ref 39, jjunk, .int (nI k), .null, jjunk] [] _ = _
    rw [e_Analysis_block_2a, e_Analysis_block_146]
  | succ f ih =>
    intro e k lo x a b s G g I J hek h hlo hb hB hs hG
    rcases h with ⟨e1, e2⟩ | ⟨n, j, h1, h2, h3, h4, h5, h6, h7, h8, h9, h10⟩
    · subst e1
      subst e2
      have un : yBlk q P D W (f + 1) a a s G = (s, G) := by
        cases s with
        | none => exact yBlk_none _ _ _ _ _ _ _ _
        | some V => unfold yBlk; rw [if_pos rfl]
      rw [un]
      refine ⟨g, I, J, hB, fZ_r, hs, hG, ?_⟩
      show jval (d + 2 * e + 9) 8 2 [.ref 39, jjunk, .int (nI k), .null, jjunk] [] _ = _
      rw [e_Analysis_block_2a, e_Analysis_block_146]
    subst h1
    have hab : a ≠ b := by omega
    have hn : nQ L q g I n a := ⟨h4, by omega, h3, h5⟩
    cases s with
    | none =>
      have i0 : I 40 1 = (0 : Int32) := by
        obtain ⟨V, -, h2⟩ := hs
        rcases h2 with ⟨_, e⟩ | ⟨e, _⟩
        · exact e
        · cases e
      rw [yBlk_none]
      refine ⟨g, I, J, hB, fZ_r, hs, hG, ?_⟩
      show jval (d + 2 * e + 9) 8 2 [.ref 39, jjunk, .int (nI k), .ref n, jjunk] [] _ = _
      rw [e_Analysis_block_2, jif_t i0, e_Analysis_block_146]
    | some V =>
      obtain ⟨lv, i1⟩ := cZs_v hs
      have h17 : 1 ≤ q 138 a ∧ q 138 a ≤ 7 := by
        rcases h9 with ⟨y1, y2, -⟩ | ⟨-, y2, -⟩ | ⟨-, y2, -⟩ <;> omega
      -- what follows
      have next : ∀ (g1 : jG) (I1 : Nat → Nat → Int32) (J1 : Nat → Nat → Int64) s1 G1, cB L q P D W su sr F PC PQ g1 I1 J1 → fZ L k sr g g1 I I1 J J1 → cZs L g1 I1 J1 40 s1 → cG q G1 sr I1 → ∃ g' I' J', cB L q P D W su sr F PC PQ g' I' J' ∧ fZ L k sr g g' I I' J J' ∧ cZs L g' I' J' 40 (yBlk q P D W f j b s1 G1).1 ∧ cG q (yBlk q P D W f j b s1 G1).2 sr I' ∧ jval (d + 2 * e + 9) 8 138 [.ref 39, jjunk, .int (nI k), .ref n, jjunk] [] (jGs L g1, I1, J1) = some (none, (jGs L g', I', J')) := by
        intro g1 I1 J1 s1 G1 B1 Z1 S1 C1
        have N1 := nQ_f hn hB Z1
        have r6 : gR L g1 n 6 = g.2.2.1 n 6 := (gR_dyn (jr0_dyn (by omega) 6)).trans (Z1.2.2.1 n 6 h3 (by omega))
        obtain ⟨g', I', J', c1, c2, c3, c4, c5⟩ := ih e k n _ j b s1 G1 g1 I1 J1 hek (nd_fz hB Z1 (show 170 ≤ n by omega) h10) (by omega) hb B1 S1 C1
        refine ⟨g', I', J', c1, fZ_t Z1 c2, c3, c4, ?_⟩
        rw [e_Analysis_block_138, if_pos (show (jGs L g1).1 n = 4 from N1.1), jo_nxt, show (jGs L g1).2.2.1 n 6 = g.2.2.1 n 6 from r6]
        exact c5
      show ∃ g' I' J', _ ∧ _ ∧ _ ∧ _ ∧ jval (d + 2 * e + 9) 8 2 [.ref 39, jjunk, .int (nI k), .ref n, jjunk] [] _ = _
      rw [c_bl_2 (d + 2 * e + 9) L g (a := a) h4 i1 h5.1 h17.1 h17.2]
      rcases h9 with ⟨y1, y2, y3⟩ | ⟨y1, y2, en, y3, y4, y5, y6⟩ | ⟨y1, y2, c, en, y3, y4, y5, y6, y7, y8⟩
      · subst y3
        rw [yBlk_st hab y1 y2]
        have hc : q 138 a = 1 ∨ q 138 a = 2 ∨ q 138 a = 3 := by omega
        rcases hc with ek | ek | ek
        · obtain ⟨g1, I1, J1, B1, Z1, E1, S1, v1⟩ := c_assign (d + 2 * e) L g hB hs hn h6 ek
          obtain ⟨g', I', J', c1, c2, c3, c4, c5⟩ := next g1 I1 J1 _ _ B1 (fZ_w Z1 (by omega)) S1 (cG_e hG E1)
          rw [if_pos ek, if_neg (by omega), if_pos ek]
          refine ⟨g', I', J', c1, c2, c3, c4, ?_⟩
          rw [e_Analysis_block_72, v1, jcV_some, e_Analysis_block_77]
          exact c5
        · obtain ⟨v4, p3, r3⟩ := h6.2.1 ek
          obtain ⟨n1, n2, n3⟩ := h5.2.2.1 ek
          have hC := mkI_C hB.1.1
          have kv : gK L g (40 + 2 + q 139 a) = 2 := (lv _ v4).1
          obtain ⟨g1, I1, J1, b1, b2, b3, b4⟩ := c_replace (d + 2 * e + 5) L g (a := 40 + 2 + q 139 a) (p := q 140 a) (q := q 141 a) (out := 40 + 2 + q 139 a) hB.1.1 (lv _ v4) p3 (by omega) kv (by omega)
          obtain ⟨B1, Z1, E1⟩ := cB_op (k := k) hB b2 b1 (Or.inl ⟨by omega, by omega⟩)
          obtain ⟨S1, S2⟩ := cZs_op v4 hs hB.1.1 b2 b3
          obtain ⟨g', I', J', c1, c2, c3, c4, c5⟩ := next g1 I1 J1 (some (jup V (q 139 a) (vEx (V (q 139 a)) (q 140 a) (q 141 a)))) G B1 Z1 ⟨_, S1, Or.inr ⟨rfl, S2⟩⟩ (cG_e hG E1)
          rw [if_neg (by omega), if_pos ek, if_neg (by omega), if_neg (by omega), if_pos ek]
          refine ⟨g', I', J', c1, c2, c3, c4, ?_⟩
          rw [e_Analysis_block_80, if_pos (show (jGs L g).1 n = 4 from h4), n1, c_at (d + 2 * e + 8) L g (Or.inl rfl) v4, jcR_some, e_Analysis_block_91a, if_pos (show (jGs L g).1 n = 4 from h4), if_pos (show (jGs L g).1 n = 4 from h4), n2, n3, show oL (q 141 a) = wI (q 141 a) from rfl, b4, jcV_some, e_Analysis_block_112]
          exact c5
        · obtain ⟨I1, B1, Z1, S1, C1, v1⟩ := c_look (d + 2 * e + 5) L g hB hs hG hn h6 ek
          obtain ⟨g', I', J', c1, c2, c3, c4, c5⟩ := next g I1 J _ _ B1 (fZ_w Z1 (by omega)) S1 C1
          rw [if_neg (by omega), if_neg (by omega), if_pos ek, if_neg (by omega), if_neg (by omega), if_pos ek]
          refine ⟨g', I', J', c1, c2, c3, c4, ?_⟩
          rw [e_Analysis_block_115, v1, jcV_some, e_Analysis_block_120]
          exact c5
      · subst y5
        obtain ⟨e', rfl⟩ : ∃ e', e = e' + 1 := ⟨e - 1, by omega⟩
        rw [yBlk_lp hab y2 y3.1]
        have e132 : (if q 138 a = 1 then 72 else if q 138 a = 2 then 80 else if q 138 a = 3 then 115 else if q 138 a = 4 then 123 else if q 138 a = 5 then 123 else 132) = 132 := by rcases y2 with e | e <;> rw [e] <;> rfl
        rw [e132]
        obtain ⟨g1, I1, J1, B1, Z1, S1, C1, v1⟩ := c_aloop (d + 2 * e' + 4) L g (x := g.2.2.1 n 4) (X := fun g' I' => g'.2.2.1 n 4 = g.2.2.1 n 4 ∧ n ≤ g'.2.2.2.1 ∧ nd L q g' I' g'.2.2.2.1 f (k + 1) n (g.2.2.1 n 4) (a + 1) en) (Bf := yBlk q P D W f (a + 1) en) y1 hB hs hG hn h6 y2 (fun k0 g2 g3 I2 I3 J2 J3 B2 Z2 hx => ⟨(Z2.2.2.1 n 4 hx.2.1 (by omega)).trans hx.1, Nat.le_trans hx.2.1 Z2.2.2.2, nd_fz B2 Z2 (by omega) hx.2.2⟩) ⟨rfl, h3, y6⟩ (fun g2 I2 hx => (gR_dyn (jr0_dyn (by omega) 4)).trans hx.1) (fun s2 G2 g2 I2 J2 B2 S2 C2 hx => by
          obtain ⟨g3, I3, J3, z1, z2, z3, z4, z5⟩ := ih e' (k + 1) n _ (a + 1) en s2 G2 g2 I2 J2 (by omega) hx.2.2 (by omega) (by omega) B2 S2 C2
          refine ⟨g3, I3, J3, z1, z2, z3, z4, ?_⟩
          rw [show d + 2 * e' + 4 + 6 = d + 2 * e' + 9 + 1 by omega, e_ablk]
          exact z5)
        obtain ⟨g', I', J', c1, c2, c3, c4, c5⟩ := next g1 I1 J1 _ _ B1 Z1 S1 C1
        refine ⟨g', I', J', c1, c2, c3, c4, ?_⟩
        rw [e_Analysis_block_132, show d + 2 * (e' + 1) + 9 = d + 2 * e' + 4 + 7 by omega, v1, jcV_some]
        exact c5
      · subst y6
        obtain ⟨e', rfl⟩ : ∃ e', e = e' + 1 := ⟨e - 1, by omega⟩
        rw [yBlk_br hab y2 y3]
        have e123 : (if q 138 a = 1 then 72 else if q 138 a = 2 then 80 else if q 138 a = 3 then 115 else if q 138 a = 4 then 123 else if q 138 a = 5 then 123 else 132) = 123 := by rcases y2 with e | e <;> rw [e] <;> rfl
        rw [e123]
        obtain ⟨g1, I1, J1, B1, Z1, S1, C1, v1⟩ := c_choose (d + 2 * e' + 4) L g (x1 := g.2.2.1 n 4) (x2 := g.2.2.1 n 5) (X1 := fun g' I' => g'.2.2.1 n 4 = g.2.2.1 n 4 ∧ n ≤ g'.2.2.2.1 ∧ nd L q g' I' g'.2.2.2.1 f (k + 1) n (g.2.2.1 n 4) (a + 1) c) (X2 := fun g' I' => g'.2.2.1 n 5 = g.2.2.1 n 5 ∧ n ≤ g'.2.2.2.1 ∧ nd L q g' I' g'.2.2.2.1 f (k + 1) n (g.2.2.1 n 5) (c + 1) en) (f1 := yBlk q P D W f (a + 1) c) (f2 := yBlk q P D W f (c + 1) en) y1 hB hs hG hn h6 y2 (fun k0 g2 g3 I2 I3 J2 J3 B2 Z2 hx => ⟨(Z2.2.2.1 n 4 hx.2.1 (by omega)).trans hx.1, Nat.le_trans hx.2.1 Z2.2.2.2, nd_fz B2 Z2 (by omega) hx.2.2⟩) (fun k0 g2 g3 I2 I3 J2 J3 B2 Z2 hx => ⟨(Z2.2.2.1 n 5 hx.2.1 (by omega)).trans hx.1, Nat.le_trans hx.2.1 Z2.2.2.2, nd_fz B2 Z2 (by omega) hx.2.2⟩) ⟨rfl, h3, y7⟩ ⟨rfl, h3, y8⟩ (fun g2 I2 hx => (gR_dyn (jr0_dyn (by omega) 4)).trans hx.1) (fun g2 I2 hx => (gR_dyn (jr0_dyn (by omega) 5)).trans hx.1) (fun s2 G2 g2 I2 J2 B2 S2 C2 hx => by
          obtain ⟨g3, I3, J3, z1, z2, z3, z4, z5⟩ := ih e' (k + 1) n _ (a + 1) c s2 G2 g2 I2 J2 (by omega) hx.2.2 (by omega) (by omega) B2 S2 C2
          refine ⟨g3, I3, J3, z1, z2, z3, z4, ?_⟩
          rw [show d + 2 * e' + 4 + 6 = d + 2 * e' + 9 + 1 by omega, e_ablk]
          exact z5) (fun s2 G2 g2 I2 J2 B2 S2 C2 hx => by
          obtain ⟨g3, I3, J3, z1, z2, z3, z4, z5⟩ := ih e' (k + 1) n _ (c + 1) en s2 G2 g2 I2 J2 (by omega) hx.2.2 (by omega) (by omega) B2 S2 C2
          refine ⟨g3, I3, J3, z1, z2, z3, z4, ?_⟩
          rw [show d + 2 * e' + 4 + 6 = d + 2 * e' + 9 + 1 by omega, e_ablk]
          exact z5)
        obtain ⟨g', I', J', c1, c2, c3, c4, c5⟩ := next g1 I1 J1 _ _ B1 Z1 S1 C1
        refine ⟨g', I', J', c1, c2, c3, c4, ?_⟩
        rw [e_Analysis_block_123, show d + 2 * (e' + 1) + 9 = d + 2 * e' + 4 + 7 by omega, v1, jcV_some, e_Analysis_block_129]
        exact c5
end CC

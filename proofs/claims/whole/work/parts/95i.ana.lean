/-! ANALYSIS, THE REFERENCE: all steps -/
set_option maxRecDepth 100000
theorem yBlk_br {q : Nat → Nat → Nat} {P : Nat → kA} {D W f a b m e : Nat} {s : Option yV} {G : yG} (hab : a ≠ b) (hkd : q 138 a = 4 ∨ q 138 a = 5) (hE : eS q a m e) : yBlk q P D W (f + 1) a b s G = yBlk q P D W f (e + 1) b (yJn (yBlk q P D W f (a + 1) m (yTo 1 q P a s) G).1 (yBlk q P D W f (m + 1) e (yTo 2 q P a s) (yBlk q P D W f (a + 1) m (yTo 1 q P a s) G).2).1) (yBlk q P D W f (m + 1) e (yTo 2 q P a s) (yBlk q P D W f (a + 1) m (yTo 1 q P a s) G).2).2 := by
  obtain ⟨h1, -, -, -, -, h6, -, -⟩ := hE
  cases s with
  | none =>
    show yBlk q P D W (f + 1) a b none G = yBlk q P D W f (e + 1) b (yJn (yBlk q P D W f (a + 1) m none G).1 (yBlk q P D W f (m + 1) e none (yBlk q P D W f (a + 1) m none G).2).1) (yBlk q P D W f (m + 1) e none (yBlk q P D W f (a + 1) m none G).2).2
    rw [yBlk_none, yBlk_none, yBlk_none]
    exact (yBlk_none _ _ _ _ _ _ _ _).symm
  | some V =>
    have e1 : q 142 a - 1 = m := by omega
    have e2 : q 142 m - 1 = e := by omega
    conv => lhs; unfold yBlk
    rw [if_neg hab]
    dsimp only
    rw [if_neg (by omega), if_neg (by omega), if_neg (by omega), if_pos hkd, e1, e2]
    rfl
theorem yBlk_lp {q : Nat → Nat → Nat} {P : Nat → kA} {D W f a b e : Nat} {V : yV} {G : yG} (hab : a ≠ b) (hkd : q 138 a = 6 ∨ q 138 a = 7) (hE : q 142 a = e + 1) : yBlk q P D W (f + 1) a b (some V) G = yBlk q P D W f (e + 1) b (yTs 2 q P a (yLoop (yBlk q P D W f (a + 1) e) (yTs 1 q P a) D W 25 0 V G).1) (yRn (yLoop (yBlk q P D W f (a + 1) e) (yTs 1 q P a) D W 25 0 V G).2.2 (yLoop (yBlk q P D W f (a + 1) e) (yTs 1 q P a) D W 25 0 V G).2.1) := by
  have e1 : q 142 a - 1 = e := by omega
  conv => lhs; unfold yBlk
  rw [if_neg hab]
  dsimp only
  rw [if_neg (by omega), if_neg (by omega), if_neg (by omega), if_neg (by omega), e1]
theorem yBlk_st {q : Nat → Nat → Nat} {P : Nat → kA} {D W f a b : Nat} {V : yV} {G : yG} (hab : a ≠ b) (h1 : 1 ≤ q 138 a) (h3 : q 138 a ≤ 3) : yBlk q P D W (f + 1) a b (some V) G = yBlk q P D W f (a + 1) b (some (if q 138 a = 1 then jup V (q 141 a) (ySet q P V a) else if q 138 a = 2 then jup V (q 139 a) (vEx (V (q 139 a)) (q 140 a) (q 141 a)) else V)) (if q 138 a = 3 then yRing q P V a G else G) := by
  conv => lhs; unfold yBlk
  rw [if_neg hab]
  dsimp only
  by_cases e1 : q 138 a = 1
  · rw [if_pos e1, if_pos e1, if_neg (by omega)]
  · rw [if_neg e1, if_neg e1]
    by_cases e2 : q 138 a = 2
    · rw [if_pos e2, if_pos e2, if_neg (by omega)]
    · rw [if_neg e2, if_neg e2, if_pos (by omega), if_pos (by omega)]
section MM
variable (d L : Nat) (g : jG) {J : Nat → Nat → Int64}
theorem r_ana {q : Nat → Nat → Nat} {P : Nat → kA} {D W L0 B0 : Nat} {g0 : jG} {I0 : Nat → Nat → Int32} : ∀ f k lo x a b s G o m I, nd L0 q g0 I0 B0 f k lo x a b → k ≤ 5 → b ≤ q 117 35 → rB q P D W I → rSt I 4 s → rG q G o m I → I 117 55 = nI k → ∃ I', fY k I I' ∧ rB q P D W I' ∧ rSt I' 4 (yBlk q P D W f a b s G).1 ∧ rG q (yBlk q P D W f a b s G).2 o m I' ∧ I' 117 55 = nI k ∧ jval (d + 13) 229 77 [.ref 117, .int (nI a)] [] (jGs L g, I, J) = jval (d + 13) 229 77 [.ref 117, .int (nI b)] [] (jGs L g, I', J) := by
  intro f
  induction f with
  | zero =>
    intro k lo x a b s G o m I h hk hb hB hs hG h55
    obtain ⟨-, e⟩ := h
    subst e
    exact ⟨I, fY_r k I, hB, hs, hG, h55, rfl⟩
  | succ f ih =>
    intro k lo x a b s G o m I h hk hb hB hs hG h55
    rcases h with ⟨-, e⟩ | ⟨n, j, -, h2, h3, h4, h5, h6, h7, h8, h9, h10⟩
    · subst e
      have un : yBlk q P D W (f + 1) a a s G = (s, G) := by
        cases s with
        | none => exact yBlk_none _ _ _ _ _ _ _ _
        | some V => unfold yBlk; rw [if_pos rfl]
      rw [un]
      exact ⟨I, fY_r k I, hB, hs, hG, h55, rfl⟩
    have hab : a ≠ b := by omega
    rcases h9 with ⟨y1, y2, y3⟩ | ⟨y1, y2, e, y3, y4, y5, y6⟩ | ⟨y1, y2, c, e, y3, y4, y5, y6, y7, y8⟩
    · subst y3
      cases s with
      | none =>
        obtain ⟨I', t1, t2, t3, t4, t5, t6⟩ := ih k n _ (a + 1) b none G o m I h10 hk hb hB hs hG h55
        rw [yBlk_none] at t3 t4 ⊢
        exact ⟨I', t1, t2, t3, t4, t5, (r_st_off d L g hB hs (by omega) y1 y2).trans t6⟩
      | some V =>
        obtain ⟨I1, f1, B1, d1, s1, g1, v1⟩ := r_st_on d L g (J := J) hB hs hG (show a < q 117 35 by omega) h6 y1 y2
        obtain ⟨I', t1, t2, t3, t4, t5, t6⟩ := ih k n _ (a + 1) b _ _ o m I1 h10 hk hb B1 s1 g1 (d1.trans h55)
        rw [yBlk_st hab y1 y2]
        exact ⟨I', fY_t (fY_w f1 hk) t1, t2, t3, t4, t5, v1.trans t6⟩
    · subst y5
      cases s with
      | none =>
        obtain ⟨I', t1, t2, t3, t4, t5, t6⟩ := ih k n _ (e + 1) b none G o m I h10 hk hb hB hs hG h55
        rw [yBlk_none] at t3 t4 ⊢
        exact ⟨I', t1, t2, t3, t4, t5, (r_lpA_off d L g hB hs (by omega) y2 y3.1).trans t6⟩
      | some V =>
        obtain ⟨I1, f1, B1, d1, r1, H1, s1, g1, v1⟩ := r_lpA d L g (J := J) hB hs hG y1 h55 (show a < q 117 35 by omega) h6 y2
        obtain ⟨I2, f2, B2, s2, g2, d2, v2⟩ := r_loop d L g (J := J) (P := P) (D := D) (W := W) (o := o) (m := m) (B := yBlk q P D W f (a + 1) e) y1 (show e < q 117 35 by omega) h6 y2 y3 (fun s G o m I hB hs hG h55 => ih (k + 1) n _ (a + 1) e s G o m I y6 (by omega) (by omega) hB hs hG h55) 25 0 V G I1 (by omega) (fun h => by omega) B1 H1 r1 s1 (by rw [show max m 0 = m by omega]; exact g1) d1
        obtain ⟨I', t1, t2, t3, t4, t5, t6⟩ := ih k n _ (e + 1) b _ _ o m I2 h10 hk hb B2 s2 g2 d2
        rw [yBlk_lp hab y2 y3.1]
        exact ⟨I', fY_t f1 (fY_t f2 t1), t2, t3, t4, t5, v1.trans (v2.trans t6)⟩
    · subst y6
      obtain ⟨z1, z2, z3, z4, z5, z6, z7, z8⟩ := y3
      obtain ⟨I1, f1, B1, d1, H1, s1, g1, v1⟩ := r_brA d L g (J := J) hB hs hG y1 h55 (show a < q 117 35 by omega) h6 y2
      obtain ⟨I2, f2, B2, s2, g2, d2, v2⟩ := ih (k + 1) n _ (a + 1) c _ _ o m I1 y7 (by omega) (by omega) B1 s1 g1 d1
      obtain ⟨I3, f3, B3, d3, H3, s3, g3, v3⟩ := r_brM d L g (J := J) B2 (rSt_cg H1 (f2.2.2.1 _ (by omega) (by omega)) (fun v hv c hc => f2.2.1 _ (by omega))) s2 g2 y1 d2 (show c < q 117 35 by omega) h6 y2 z2 z3 z4 z5
      obtain ⟨I4, f4, B4, s4, g4, d4, v4⟩ := ih (k + 1) n _ (c + 1) e _ _ o m I3 y8 (by omega) (by omega) B3 s3 g3 d3
      obtain ⟨I5, f5, B5, d5, s5, g5, v5⟩ := r_brE d L g (J := J) (a := a) B4 (rSt_cg H3 (f4.2.2.1 _ (by omega) (by omega)) (fun v hv c hc => f4.2.1 _ (by omega))) s4 g4 y1 d4 (show e < q 117 35 by omega) y2 z7 z8
      obtain ⟨I', t1, t2, t3, t4, t5, t6⟩ := ih k n _ (e + 1) b _ _ o m I5 h10 hk hb B5 s5 g5 d5
      rw [yBlk_br hab y2 ⟨z1, z2, z3, z4, z5, z6, z7, z8⟩]
      exact ⟨I', fY_t f1 (fY_t (fY_w f2 (by omega)) (fY_t f3 (fY_t (fY_w f4 (by omega)) (fY_t f5 t1)))), t2, t3, t4, t5, v1.trans (v2.trans (v3.trans (v4.trans (v5.trans t6))))⟩
end MM

/-! TOP: pattern -/
set_option maxRecDepth 100000
theorem r_rt (d L : Nat) (g : jG) {J : Nat → Nat → Int64} {N : Nat} {c : Nat → Nat} (hN : N ≤ 120) : ∀ f i (I : Nat → Nat → Int32), i + f = N → I 117 50 = nI N → (∀ j, j < N → I 147 j = nI (c j)) → (∀ j, j < i → I 148 j = nI (c j)) → ∃ I', (∀ a j, a ≠ 148 → ¬ (a = 117 ∧ j = 52) → I' a j = I a j) ∧ I' 117 52 = nI N ∧ (∀ j, j < N → I' 148 j = nI (c j)) ∧ jval d 256 2 [.ref 117, .int (nI i)] [] (jGs L g, I, J) = some (none, (jGs L g, I', J)) := by
  intro f
  induction f with
  | zero =>
    intro i I hi h1 h2 h3
    refine ⟨ju I 117 52 (I 117 50), fun a j _ hj => ju_ne (by omega), by rw [zu_at]; exact h1, fun j hj => by rw [zu_a (by omega)]; exact h3 j (by omega), ?_⟩
    rw [e_TextValuesModel_readsText_2, h1, jif_t (nI_le (by omega) (by omega))]
  | succ f ih =>
    intro i I hi h1 h2 h3
    obtain ⟨I', k1, k2, k3, k4⟩ := ih (i + 1) (ju I 148 i (I 147 i)) (by omega) (by rw [zu_a (by omega)]; exact h1) (fun j hj => by rw [zu_a (by omega)]; exact h2 j hj) (fun j hj => by
      by_cases e : j = i
      · rw [e, zu_at]; exact h2 i (by omega)
      · rw [zu_k e]; exact h3 j (by omega))
    refine ⟨I', fun a j y1 y2 => by rw [k1 a j y1 y2, zu_a y1], k2, k3, ?_⟩
    rw [e_TextValuesModel_readsText_2, h1, jif_f (nI_ge (by omega) (by omega)), jin_nI (by omega) (by omega), cond_true, cond_true, nI_c (by omega), nI_1]
    exact k4
theorem r_readsText (d L : Nat) (g : jG) {T : zT} {I : Nat → Nat → Int32} {J : Nat → Nat → Int64} (h : rI T I) (hw : zWf T) : ∃ I', rI T I' ∧ oR I I' J J ∧ I' 117 52 = nI T.1 ∧ (∀ j, j < T.1 → I' 148 j = nI (T.2.1 j)) ∧ jcall (d + 1) 256 [.ref 117] (jGs L g, I, J) = some (none, (jGs L g, I', J)) := by
  obtain ⟨I', k1, k2, k3, k4⟩ := r_rt d L g (J := J) hw.1.1 T.1 0 I (by omega) h.1.1 h.1.2 (fun j hj => by omega)
  refine ⟨I', rI_x h hw (fun a j hx => k1 a j (by unfold iX at hx; omega) (by unfold iX at hx; omega)) (fun y hy => by rw [k1 _ _ (by omega) (by omega)]; exact h.2.2.1.2.2.1 y hy), oR_I (fun a j ha => k1 a j (by omega) (by omega)), k2, k3, ?_⟩
  rw [c_TextValuesModel_readsText, e_TextValuesModel_readsText_0]
  exact k4
theorem cPS_cg {S : pS} {I I' : Nat → Nat → Int32} (h : cPS S I) (he : ∀ a, 30 ≤ a → a ≤ 34 → I' a = I a) : cPS S I' := by
  unfold cPS at h ⊢
  rw [he 30 (by omega) (by omega), he 31 (by omega) (by omega), he 32 (by omega) (by omega), he 33 (by omega) (by omega), he 34 (by omega) (by omega)]
  exact h
theorem pFin_cg {S : pS} {I I' : Nat → Nat → Int32} (h : pFin S I) (he : ∀ a j, (a = 122 ∨ a = 123 ∨ (a = 117 ∧ (j = 13 ∨ j = 14 ∨ j = 15))) → I' a j = I a j) : pFin S I' := by
  obtain ⟨h1, h2, h3, h4, h5⟩ := h
  exact ⟨by rw [he _ _ (by omega)]; exact h1, by rw [he _ _ (by omega)]; exact h2, by rw [he _ _ (by omega)]; exact h3, fun p hp => by rw [he _ _ (by omega)]; exact h4 p hp, fun l hl => by rw [he _ _ (by omega)]; exact h5 l hl⟩
theorem ok_pattern (x : Int32) : okV false 128 257 [.int x] := by
  intro L T su sr sa PC PQ g I J h hw h1 h2
  rcases ix_b x (n := 4) (by omega) (by omega) with ⟨v, hv, e, hb⟩ | ⟨hx, hb⟩
  · subst e
    have hC := mkI_C h.2.2.1.1.1
    have hP := mkI_P h.2.2.1.1.1
    obtain ⟨I1, a1, a2⟩ := c_read 34 L g (J := J) (a := 2) (N := T.1) (c := T.2.1) (I := I) rfl rfl hw.1.1 hw.1.2 h.1.2
    have cI1 := cI_S h (cI_room h) (I' := I1) (fun a y1 y2 => a1 a (by omega) (by omega) (by omega) (by omega) (by omega))
    have O1 : oC I I1 := fun a y1 y2 => a1 a (by omega) (by omega) (by omega) (by omega) (by omega)
    have ec : jcall 40 128 [.ref 1, .int (nI v)] (jGs L g, I, J) = jcI (jcall 39 50 [.ref 30, .ref 2, .int (nI T.1)] (jGs L g, I, J)) (fun r2 S1 => jval 39 128 31 [.ref 1, .int (nI v), jjunk, jjunk] [.int r2] S1) := by
      rw [c_TextValues_pattern, e_TextValues_pattern_0, jif_f (nI_pos (by omega)), jif_t (show nI v < (4 : Int32) from Eq.mpr (zi_lt (b := 4) (by omega) (by omega)) hv), h.1.1]
    have er : ∀ g I J, rI T I → ∃ I', rI T I' ∧ oR I I' J J ∧ ((∃ S', rn T.2.1 T.1 0 pS0 = (some S', 0) ∧ pB S' ∧ pFin S' I' ∧ jcall 40 257 [.ref 117, .int (nI v)] (jGs L g, I, J) = jval 39 257 22 [.ref 117, .int (nI v)] [.int (nI 1)] (jGs L g, I', J)) ∨ ∃ p, rn T.2.1 T.1 0 pS0 = (none, p) ∧ p ≤ T.1 ∧ I' 117 53 = nI p ∧ jcall 40 257 [.ref 117, .int (nI v)] (jGs L g, I, J) = jval 39 257 22 [.ref 117, .int (nI v)] [.int (nI 0)] (jGs L g, I', J)) := by
      intro g I J hr
      obtain ⟨I2, b1, b2, b3, b4, b5⟩ := r_readsText 38 L g (J := J) hr hw
      obtain ⟨I3, c1, c2⟩ := r_readsPattern 34 L g (J := J) hw.1.1 hw.1.2 b3 b4
      have e0 : jcall 40 257 [.ref 117, .int (nI v)] (jGs L g, I, J) = jcI (jcall 39 249 [.ref 117] (jGs L g, I2, J)) (fun r2 S1 => jval 39 257 22 [.ref 117, .int (nI v)] [.int r2] S1) := by
        rw [c_TextValuesModel_pattern, e_TextValuesModel_pattern_0, s_in 38 L g I J, show (3 : Int32) = nI (4 - 1) from rfl, hb, jcI_some, e_TextValuesModel_pattern_6, jif_f (by decide), b5, jcV_some, e_TextValuesModel_pattern_18]
      refine ⟨I3, rI_x b1 hw (fun a j hx => c1 a j (by unfold mPx; unfold iX at hx; omega)) (fun y hy => by rw [c1 _ _ (by unfold mPx; omega)]; exact b1.2.2.1.2.2.1 y hy), oR_t b2 (oR_I (fun a j ha => c1 a j (by unfold mPx; omega))), ?_⟩
      rcases c2 with ⟨S', d1, d2, d3, d4⟩ | ⟨p, d1, d2, d3, d4⟩
      · exact Or.inl ⟨S', d1, d2, d3, by rw [e0, d4, jcI_some]⟩
      · exact Or.inr ⟨p, d1, d2, d3, by rw [e0, d4, jcI_some]⟩
    rcases a2 with ⟨S, s1, s2, s3, s4, s5⟩ | ⟨p, s1, s2, s5⟩
    · generalize hx : g.2.2.2.1 + 1 = x
      have K1 : gK L (jga g 2 0 4) x = 2 := by rw [← hx]; exact gK_new hC
      have O2 : ∀ a, a ≤ g.2.2.2.1 → gK L (jga g 2 0 4) a = gK L g a ∧ gN L (jga g 2 0 4) a = gN L g a := fun a ha => ⟨gK_old (kd := 2) (ln := 0) (n := 4) (by omega), gN_old (kd := 2) (ln := 0) (n := 4) (by omega)⟩
      have R2 : ∀ a k, a ≤ g.2.2.2.1 → (jga g 2 0 4).2.2.1 a k = g.2.2.1 a k := fun a k ha => jga_R (by omega)
      obtain ⟨I3, J3, b1, b2, b3⟩ := c_makeAll 37 L (jga g 2 0 4) (I := jup I1 x (fun _ => 0)) (J := jup J x (fun _ => 0)) K1
      have S3 : ∀ a, a ≤ g.2.2.2.1 → I3 a = I1 a ∧ J3 a = J a := fun a ha => by
        rw [(b1 a (by omega)).1, (b1 a (by omega)).2, jup_n (by omega), jup_n (by omega)]; exact ⟨rfl, rfl⟩
      have mk1 : mkI L (jga g 2 0 4) I3 (PC + 1) (PQ + 4) := mkI_T cI1.2.2.1.1.1 (fun a ha => (S3 a (mkO_C cI1.2.2.1.1.1 ha)).1) O2 (fun k => R2 19 k (by omega)) rfl rfl (by omega) (by omega)
      have ps3 : cPS S I3 := cPS_cg s4 (fun a y1 y2 => (S3 a (by omega)).1)
      obtain ⟨g4, I4, J4, m1, m2, m3, m4⟩ := c_make 36 L (jga g 2 0 4) (J := J3) mk1 s2 ps3 K1 (show x ≤ g.2.2.2.1 + 1 by omega)
      obtain ⟨f1, f2, f3, f4⟩ := m2
      have C4 : g.2.2.2.1 + 1 ≤ g4.2.2.2.1 := f4
      have O : ∀ a, mkO (jga g 2 0 4) a ↔ mkO g a := mkO_eq (fun k => R2 19 k (by omega))
      have fm : fMk L g g4 I I4 J J4 := by
        refine ⟨fun a ha hn => ?_, fun a ha => ?_, fun a k ha h19 => ?_, by omega⟩
        · have hh := f1 a (by show a ≤ g.2.2.2.1 + 1; omega) (fun hm => hn ((O a).mp hm))
          refine ⟨fun y1 y2 => ?_, hh.2⟩
          have hi := hh.1 (by omega)
          rw [hi.1, hi.2, (S3 a ha).1, (S3 a ha).2, a1 a (by omega) (by omega) (by omega) (by omega) (by omega)]
          exact ⟨rfl, rfl⟩
        · have hh := f2 a (by show a ≤ g.2.2.2.1 + 1; omega)
          exact ⟨hh.1.trans (O2 a ha).1, hh.2.trans (O2 a ha).2⟩
        · exact (f3 a k (by show a ≤ g.2.2.2.1 + 1; omega) h19).trans (R2 a k ha)
      have cI4 := cI_M h fm m1
      have O4 : oC I I4 := fun a y1 y2 => ((fm.1 a (by omega) (h.2.2.1.1.2 a (by omega) (by omega))).1 (by omega) (by omega)).1
      obtain ⟨g5, I5, J5, su', n1, n2, n3, n4, n5⟩ := c_withP 37 L g4 cI4 hv m3 (Or.inr (by omega)) (by omega) (by omega) (by omega)
      obtain ⟨g6, I6, o1, o2, o3, o4⟩ := c_chg 38 L g5 n1 hw n2 n3
      have k6 : gK L g6 x = 2 := (o3 x).trans ((n4 x (by omega)).2.2.trans m3.1)
      have i6 : I6 x 3 = nI (vP6 S).1 := by
        rw [o2 x (by omega), (n4 x (by omega)).1]; exact m3.2.2.2.2.2
      have zk : zOk ((fun i => if i = v then vP6 S else T.2.2.2.1.1 i), T.2.2.2.1.2.1, T.2.2.2.1.2.2.1, T.2.2.2.1.2.2.2.1, T.2.2.2.1.2.2.2.2) := by
        refine ⟨fun i hi => ?_, hw.2.1.2⟩
        show kV (if i = v then vP6 S else T.2.2.2.1.1 i) ∧ 0 < sm (if i = v then vP6 S else T.2.2.2.1.1 i) 220 0
        by_cases e : i = v
        · rw [if_pos e]; exact ⟨m3.2.1, sm_P6 s2 s1⟩
        · rw [if_neg e]; exact hw.2.1.1 i hi
      refine ⟨.int (nI (vP6 S).1), tChg T ((fun i => if i = v then vP6 S else T.2.2.2.1.1 i), T.2.2.2.1.2.1, T.2.2.2.1.2.2.1, T.2.2.2.1.2.2.2.1, T.2.2.2.1.2.2.2.2), ⟨_, rfl⟩, tChg_W hw zk, ⟨_, _, _, _, _, g6, I6, J5, o1, by omega, by omega, fun a y1 y2 => by rw [o2 a (by omega), (n4 a (by omega)).1, O4 a y1 y2], ?_⟩, fun g I J hr => ?_⟩
      · rw [ec, s5, jcI_some, e_TextValues_pattern_31, jif_t (by decide), jrm_t (by omega) (by omega), cond_true, jal_G hC, hx, e_TextValues_pattern_44, c_Lang_init, e_Lang_init_0, if_pos (show (jGs L (jga g 2 0 4)).1 x = 2 from K1), b3, jcV_some, e_Lang_init_8, jcV_some, e_TextValues_pattern_48, m4, jcV_some, e_TextValues_pattern_61, c_s9 cI4, n5, jcR_some, e_TextValues_pattern_71a, o4, jcV_some, e_TextValues_pattern_74, if_pos (show (jGs L g6).1 x = 2 from k6), i6]
      · obtain ⟨I2, q1, q2, q3⟩ := er g I J hr
        rcases q3 with ⟨S', d1, d2, d3, d4⟩ | ⟨p, d1, -⟩
        · rw [s1] at d1
          cases d1
          obtain ⟨I7, k1, k2, k3, k4⟩ := r_leave 38 L g (J := J) q1 hw
          have w' := tChg_W hw hw.2.1
          have E8 : ∀ a j, ¬ (a = 117 ∧ j = 2) → ju I7 117 2 (6 : Int32) a j = I7 a j := fun a j hj => ju_ne (by omega)
          have p8 : pFin S (ju I7 117 2 (6 : Int32)) := pFin_cg d3 (fun a j hj => by rw [E8 a j (by omega)]; exact k3 a j (by omega) (by omega))
          obtain ⟨I9, t1, t2, t3⟩ := r_makesPat 31 L g (J := J) (into := v) d2 p8 (zu_at _ _ _ _) (fun y hy => by rw [E8 _ _ (by omega)]; exact k1.2.2.1.2.2.1 y hy) (by omega)
          obtain ⟨t1a, t1b, t1c⟩ := t1
          have E9 : ∀ a j, ¬ mScr a j → a ≠ 119 → ¬ (a = 117 ∧ j = 2) → I9 a j = I7 a j := fun a j y1 y2 y3 => by rw [t1a a j y1 y2, E8 a j y3]
          refine ⟨I9, J, rI_Z (z' := ((fun i => if i = v then vP6 S else T.2.2.2.1.1 i), T.2.2.2.1.2.1, T.2.2.2.1.2.2.1, T.2.2.2.1.2.2.2.1, T.2.2.2.1.2.2.2.2)) k1 w' (by rw [E9 _ _ (by unfold mScr; omega) (by omega) (by omega)]; exact k2) ?_ ⟨by rw [E9 _ _ (by unfold mScr; omega) (by omega) (by omega)]; exact k1.2.2.2.1.1, fun i hi => by rw [E9 _ _ (by unfold mScr; omega) (by omega) (by omega)]; exact k1.2.2.2.1.2 i hi⟩ (fun a j hj => E9 a j (by unfold mScr; omega) (by omega) (by omega)), oR_t q2 (oR_I (fun a j ha => by rw [E9 a j (by unfold mScr; omega) (by omega) (by omega)]; exact k3 a j (by omega) (by omega))), ?_⟩
          · obtain ⟨r1, r2, r3, r4, r5, r6, r7, r8⟩ := k1.2.2.1
            refine ⟨rQ_x r1 (fun a j hj => E9 a j (by unfold mScr; omega) (by omega) (by omega)), fun i hi => ?_, t1c, by rw [E9 _ _ (by unfold mScr; omega) (by omega) (by omega)]; exact r4, by rw [E9 _ _ (by unfold mScr; omega) (by omega) (by omega)]; exact r5, r6, r7, r8⟩
            show mR I9 i (if i = v then vP6 S else T.2.2.2.1.1 i) ∧ kV (if i = v then vP6 S else T.2.2.2.1.1 i)
            by_cases e : i = v
            · rw [if_pos e, e]; exact ⟨t2, m3.2.1⟩
            · rw [if_neg e]
              exact ⟨mR_cg (r2 i hi).1 (fun c hc => by rw [t1b _ (by omega) (by omega), E8 _ _ (by omega)]), (r2 i hi).2⟩
          · rw [d4, e_TextValuesModel_pattern_22, jif_f (by decide), k4, jcV_some, e_TextValuesModel_pattern_37, t3, jcV_some, e_TextValuesModel_pattern_49, r_size 38 L g J t2, jcI_some, e_TextValuesModel_pattern_54]
        · rw [s1] at d1; cases d1
    · refine ⟨.int ((-10 : Int32) - nI p), T, ⟨_, rfl⟩, hw, ⟨su, sr, sa, PC, PQ, g, I1, J, cI1, by omega, by omega, O1, ?_⟩, fun g I J hr => ?_⟩
      · have hN := hw.1.1
        rw [ec, s5, jcI_some, e_TextValues_pattern_31, jif_f (nI_pos (by omega))]
      · obtain ⟨I2, q1, q2, q3⟩ := er g I J hr
        rcases q3 with ⟨S', d1, -⟩ | ⟨p', d1, d2, d3, d4⟩
        · rw [s1] at d1; cases d1
        · rw [s1] at d1
          cases d1
          refine ⟨I2, J, q1, q2, ?_⟩
          rw [d4, e_TextValuesModel_pattern_22, jif_t (by decide), d3]
  · refine ⟨.int (tAn 0), tRef T 0, ⟨_, rfl⟩, tRef_W hw, cBad (K := fun r2 S1 => jval 39 128 15 [jjunk, jjunk, jjunk, jjunk] [.int r2] S1) h (by omega) ?_ (fun I' => e_TextValues_pattern_15 ..), rBad hw (by omega) (fun g I J hr => ⟨fun r2 S1 => jval 39 257 13 [jjunk, jjunk] [.int r2] S1, ?_, fun I' => e_TextValuesModel_pattern_13 ..⟩)⟩
    · rw [c_TextValues_pattern, e_TextValues_pattern_0]
      rcases hx with hx | ⟨hx1, hx2⟩
      · rw [jif_t hx, e_TextValues_pattern_9]; rfl
      · rw [jif_f hx1, jif_f (show ¬ x < (4 : Int32) from Int32.not_lt.mpr hx2), e_TextValues_pattern_9]; rfl
    · rw [c_TextValuesModel_pattern, e_TextValuesModel_pattern_0, s_in 38 L g I J, show (3 : Int32) = nI (4 - 1) from rfl, hb, jcI_some, e_TextValuesModel_pattern_6, jif_t (by decide)]

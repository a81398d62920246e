/-! RUNS, THE CLASS: statements, blocks -/
set_option maxRecDepth 100000
/-- the run's state -/
def cU (s : uS) (I : Nat → Nat → Int32) (J : Nat → Nat → Int64) : Prop := (J 111 2 = lN s.1 ∧ s.1 < 2147483648) ∧ (I 111 3 = nI s.2.1 ∧ s.2.1 ≤ 100) ∧ I 111 4 = 0 ∧ (I 111 5 = nI s.2.2.1 ∧ s.2.2.1 ≤ s.2.1) ∧ uT s.2.2.2 113 112 I
/-- what came of it; lost: none -/
def cUo (o : Option uS) (I : Nat → Nat → Int32) (J : Nat → Nat → Int64) : Prop := match o with
  | some s => cU s I J
  | none => I 111 4 = 1
section CC
variable (d L : Nat) {q : Nat → Nat → Nat} {P : Nat → kA} {D W su sr F : Nat}
/-- quoted letters -/
theorem c_ra_q (g : jG) {n p cc pl : Nat} {w0 : List Nat} (hkp : ∀ x, x < w0.length → q 38 (pl + x) = 97 + w0.getD x 0 ∧ w0.getD x 0 < 3) (hpl : pl + w0.length < q 35 8) (h120 : q 35 8 ≤ 120) : ∀ m j i w (I : Nat → Nat → Int32) (J : Nat → Nat → Int64), j + m = w0.length → i + m < 120 → i ≤ pl + j → pgC L g I p cc (q 35 8) (q 38) → cc ≠ 111 → cc ≠ 114 → mC (some w) I → ∃ I', (∀ a y, ¬ (a = 114 ∨ (a = 111 ∧ (y = 4 ∨ y = 9))) → I' a y = I a y) ∧ mC (uAdL (some w) (w0.drop j)) I' ∧ ((uAdL (some w) (w0.drop j) = none ∧ jval (d + 7) 96 24 [.ref 111, .ref n, .ref p, .int (1 : Int32), .int (nI (pl + j)), .int (nI i), jjunk] [] (jGs L g, I, J) = jval (d + 7) 96 144 [.ref 111, .ref n, jjunk, jjunk, jjunk, jjunk, jjunk] [] (jGs L g, I', J)) ∨ ∃ w', uAdL (some w) (w0.drop j) = some w' ∧ jval (d + 7) 96 24 [.ref 111, .ref n, .ref p, .int (1 : Int32), .int (nI (pl + j)), .int (nI i), jjunk] [] (jGs L g, I, J) = jval (d + 7) 96 24 [.ref 111, .ref n, .ref p, .int (1 : Int32), .int (nI (pl + w0.length)), .int (nI (i + m)), jjunk] [] (jGs L g, I', J)) := by
  intro m
  induction m with
  | zero =>
    intro j i w I J hj hi hip hpg c1 c2 hm
    have e : j = w0.length := by omega
    subst e
    rw [List.drop_eq_nil_of_le (Nat.le_refl _)]
    exact ⟨I, fun _ _ _ => rfl, hm, Or.inr ⟨w, rfl, rfl⟩⟩
  | succ m ih =>
    intro j i w I J hj hi hip hpg c1 c2 hm
    obtain ⟨l1, l2⟩ := hkp j (by omega)
    have k6 : (jGs L g).1 p = 6 := hpg.1
    obtain ⟨I1, a1, a2, a3⟩ := c_append (d + 6) L g (J := J) (l := w0.getD j 0) hm (by omega)
    rw [drop_c (show j < w0.length by omega)]
    have e1 : uAdL (some w) (w0.getD j 0 :: w0.drop (j + 1)) = uAdL (uAd (some w) (w0.getD j 0)) (w0.drop (j + 1)) := rfl
    rw [e1]
    have step : jval (d + 7) 96 24 [.ref 111, .ref n, .ref p, .int (1 : Int32), .int (nI (pl + j)), .int (nI i), jjunk] [] (jGs L g, I, J) = jval (d + 7) 96 24 [.ref 111, .ref n, .ref p, .int (1 : Int32), .int (nI (pl + j + 1)), .int (nI (i + 1)), jjunk] [] (jGs L g, I1, J) := by
      rw [e_Runner_assign_24a, jif_f (show ¬ (120 : Int32) ≤ nI i from nI_ge (b := 120) (by omega) (by omega)), jif_t (show I 111 4 = 0 from hm.2.2.2), if_pos k6, c_codeAt (d + 6) L g hpg (by omega), jcI_some, e_Runner_assign_44, l1, jif_f (show ¬ nI (97 + w0.getD j 0) = (59 : Int32) from fun e => by have := (nI_eq (b := 59) (by omega) (by omega)).mp e; omega), if_pos k6, c_codeAt (d + 6) L g hpg (by omega), jcI_some, e_Runner_assign_55, l1, jif_f (show ¬ nI (97 + w0.getD j 0) = (39 : Int32) from fun e => by have := (nI_eq (b := 39) (by omega) (by omega)).mp e; omega), jif_f (show ¬ (1 : Int32) = 0 by decide), show nI (97 + w0.getD j 0) - (97 : Int32) = nI (w0.getD j 0) by rw [show (97 : Int32) = nI 97 from rfl, zi_sub (by omega), Nat.add_sub_cancel_left], a3, jcV_some, e_Runner_assign_90, e_Runner_assign_135, nI_1, nI_1]
    cases ho : uAd (some w) (w0.getD j 0) with
    | none =>
      rw [ho] at a2
      have a2' : I1 111 4 = 1 := a2
      rw [uAdL_none]
      refine ⟨I1, a1, a2, Or.inl ⟨rfl, ?_⟩⟩
      rw [step, e_Runner_assign_24a]
      by_cases h : 120 ≤ i + 1
      · rw [jif_t (show (120 : Int32) ≤ nI (i + 1) from nI_le (a := 120) h (by omega))]
      · rw [jif_f (show ¬ (120 : Int32) ≤ nI (i + 1) from nI_ge (b := 120) (by omega) (by omega)), jif_f (by rw [a2']; decide)]
    | some w1 =>
      rw [ho] at a2
      have hpg1 : pgC L g I1 p cc (q 35 8) (q 38) := ⟨hpg.1, hpg.2.1, hpg.2.2.1, hpg.2.2.2.1, hpg.2.2.2.2.1, fun x hx => ⟨by rw [a1 _ _ (by omega)]; exact (hpg.2.2.2.2.2 x hx).1, trivial⟩⟩
      obtain ⟨I', b1, b2, b3⟩ := ih (j + 1) (i + 1) w1 I1 J (by omega) (by omega) (by omega) hpg1 c1 c2 a2
      refine ⟨I', fun a y hx => (b1 a y hx).trans (a1 a y hx), b2, ?_⟩
      rw [step, show pl + j + 1 = pl + (j + 1) by omega, show i + (m + 1) = i + 1 + m by omega]
      exact b3
theorem c_ra_24 (g : jG) {n p e : Nat} {V : Nat → List Nat} (he : e ≤ 120) (hp : gR L g su 1 = some p) : ∀ f pl k i x w (I : Nat → Nat → Int32) (J : Nat → Nat → Int64), cd q f pl k e → k ≤ e → i ≤ pl → cV L q P D W su sr F g I J → uT V 113 112 I → x < 2147483648 → J 111 2 = lN x → mC (some w) I → kW w → ∃ I' J', eWr I I' J J' ∧ I' 111 3 = I 111 3 ∧ I' 111 5 = I 111 5 ∧ uT V 113 112 I' ∧ (uPs q P V (e - k) k x w = none → I' 111 4 = 1) ∧ (∀ r, uPs q P V (e - k) k x w = some r → J' 111 2 = lN r.1 ∧ r.1 < 2147483648 ∧ mC (some r.2) I' ∧ kW r.2) ∧ jval (d + 7) 96 24 [.ref 111, .ref n, .ref p, .int (0 : Int32), .int (nI pl), .int (nI i), jjunk] [] (jGs L g, I, J) = jval (d + 7) 96 144 [.ref 111, .ref n, jjunk, jjunk, jjunk, jjunk, jjunk] [] (jGs L g, I', J') := by
  intro f
  induction f with
  | zero => intro pl k i x w I J h; exact h.elim
  | succ f ih =>
    intro pl k i x w I J hcd hke hi hV hT hx hJ hm hW
    have h120 := hV.2.2.2.1
    obtain ⟨cc, hpg⟩ := cV_pgC hV hp
    have k6 : (jGs L g).1 p = 6 := hpg.1
    have k9 : (jGs L g).1 su = 9 := hV.1.2.2.1
    have hcc : cc ≠ 111 ∧ cc ≠ 114 ∧ okS cc := by
      obtain ⟨p', e', h1, -⟩ := hV.1.2.2.2.2.2.2
      rw [hp] at e'
      cases e'
      obtain ⟨o1, o2, o3, o4, ⟨cr, c1, c2, c3, -⟩, -⟩ := h1
      have := hpg.2.1
      rw [c1] at this
      cases this
      have := okc_S c2
      have h' := this
      unfold okS at h'
      exact ⟨by omega, by omega, this⟩
    obtain ⟨hpl, hx'⟩ := hcd
    by_cases hk : k = e
    · subst hk
      rcases hx' with ⟨-, e2⟩ | ⟨e1, -⟩
      · rw [Nat.sub_self]
        refine ⟨I, J, eWr_r I J, rfl, rfl, hT, fun h => (by cases h), fun r h => (by cases h; exact ⟨hJ, hx, hm, hW⟩), ?_⟩
        rw [e_Runner_assign_24a, jif_f (show ¬ (120 : Int32) ≤ nI i from nI_ge (b := 120) (by omega) (by omega)), jif_t (show I 111 4 = 0 from hm.2.2.2), if_pos k6, c_codeAt (d + 6) L g hpg hpl, jcI_some, e_Runner_assign_44, e2, jif_t (by decide)]
      · omega
    rcases hx' with ⟨e1, -⟩ | ⟨-, -, hx'⟩
    · omega
    have to55 : q 38 pl < 128 → q 38 pl ≠ 59 → jval (d + 7) 96 24 [.ref 111, .ref n, .ref p, .int (0 : Int32), .int (nI pl), .int (nI i), jjunk] [] (jGs L g, I, J) = jval (d + 7) 96 55 [.ref 111, .ref n, .ref p, .int (0 : Int32), .int (nI pl), .int (nI i), jjunk] [.int (nI (q 38 pl))] (jGs L g, I, J) := by
      intro h128 h59
      rw [e_Runner_assign_24a, jif_f (show ¬ (120 : Int32) ≤ nI i from nI_ge (b := 120) (by omega) (by omega)), jif_t (show I 111 4 = 0 from hm.2.2.2), if_pos k6, c_codeAt (d + 6) L g hpg hpl, jcI_some, e_Runner_assign_44, jif_f (show ¬ nI (q 38 pl) = (59 : Int32) from fun e => h59 ((nI_eq (b := 59) (by omega) (by omega)).mp e)), if_pos k6, c_codeAt (d + 6) L g hpg hpl, jcI_some]
    -- behind a part: it is lost, or it goes on
    have next : ∀ u x' pl' i' (I1 : Nat → Nat → Int32) (J1 : Nat → Nat → Int64), uPt q P V x k = (x', u) → kW u → x' < 2147483648 → cd q f pl' (k + 1) e → i' ≤ pl' → eWr I I1 J J1 → I1 111 3 = I 111 3 → I1 111 5 = I 111 5 → uT V 113 112 I1 → J1 111 2 = lN x' → mC (uAdL (some w) u) I1 → (uAdL (some w) u ≠ none → jval (d + 7) 96 24 [.ref 111, .ref n, .ref p, .int (0 : Int32), .int (nI pl), .int (nI i), jjunk] [] (jGs L g, I, J) = jval (d + 7) 96 24 [.ref 111, .ref n, .ref p, .int (0 : Int32), .int (nI pl'), .int (nI i'), jjunk] [] (jGs L g, I1, J1)) → (uAdL (some w) u = none → jval (d + 7) 96 24 [.ref 111, .ref n, .ref p, .int (0 : Int32), .int (nI pl), .int (nI i), jjunk] [] (jGs L g, I, J) = jval (d + 7) 96 144 [.ref 111, .ref n, jjunk, jjunk, jjunk, jjunk, jjunk] [] (jGs L g, I1, J1)) → ∃ I' J', eWr I I' J J' ∧ I' 111 3 = I 111 3 ∧ I' 111 5 = I 111 5 ∧ uT V 113 112 I' ∧ (uPs q P V (e - k) k x w = none → I' 111 4 = 1) ∧ (∀ r, uPs q P V (e - k) k x w = some r → J' 111 2 = lN r.1 ∧ r.1 < 2147483648 ∧ mC (some r.2) I' ∧ kW r.2) ∧ jval (d + 7) 96 24 [.ref 111, .ref n, .ref p, .int (0 : Int32), .int (nI pl), .int (nI i), jjunk] [] (jGs L g, I, J) = jval (d + 7) 96 144 [.ref 111, .ref n, jjunk, jjunk, jjunk, jjunk, jjunk] [] (jGs L g, I', J') := by
      intro u x' pl' i' I1 J1 hup hu hx1 hcd1 hi1 F1 g3 g5 T1 hJ1 hm1 v1 v2
      have hst : uPs q P V (e - k) k x w = if 40 < w.length + u.length then none else uPs q P V (e - (k + 1)) (k + 1) x' (w ++ u) := by
        rw [show e - k = e - (k + 1) + 1 by omega]
        show (if 40 < w.length + (uPt q P V x k).2.length then none else uPs q P V (e - (k + 1)) (k + 1) (uPt q P V x k).1 (w ++ (uPt q P V x k).2)) = _
        rw [hup]
      rw [uAdL_some _ _ hm.1] at hm1 v1 v2
      by_cases h40 : 40 < w.length + u.length
      · rw [if_pos h40] at hst hm1 v2
        rw [hst]
        exact ⟨I1, J1, F1, g3, g5, T1, fun _ => hm1, fun r h => (by cases h), v2 rfl⟩
      · rw [if_neg h40] at hst hm1 v1
        rw [hst]
        obtain ⟨I', J', z1, z2, z3, z4, z5, z6, z7⟩ := ih pl' (k + 1) i' x' (w ++ u) I1 J1 hcd1 (by omega) hi1 (cV_f hV F1) T1 hx1 hJ1 hm1 (fun l hl => by
          rcases List.mem_append.mp hl with e | e
          · exact hW l e
          · exact hu l e)
        exact ⟨I', J', eWr_t F1 z1, z2.trans g3, z3.trans g5, z4, z5, z6, (v1 (by intro h; cases h)).trans z7⟩
    -- behind the part, where it is lost
    have lost : ∀ pl' i' y (I1 : Nat → Nat → Int32) (J1 : Nat → Nat → Int64), i' ≤ 200 → I1 111 4 = 1 → jval (d + 7) 96 24 [.ref 111, .ref n, .ref p, .int y, .int (nI pl'), .int (nI i'), jjunk] [] (jGs L g, I1, J1) = jval (d + 7) 96 144 [.ref 111, .ref n, jjunk, jjunk, jjunk, jjunk, jjunk] [] (jGs L g, I1, J1) := by
      intro pl' i' y I1 J1 hi' h4
      rw [e_Runner_assign_24a]
      by_cases h : 120 ≤ i'
      · rw [jif_t (show (120 : Int32) ≤ nI i' from nI_le (a := 120) h (by omega))]
      · rw [jif_f (show ¬ (120 : Int32) ≤ nI i' from nI_ge (b := 120) (by omega) (by omega)), jif_f (by rw [h4]; decide)]
    rcases hx' with ⟨y1, y2, y3, y4⟩ | ⟨y1, y2, y3, y4⟩ | ⟨y1, y2, y3, y4, y5, y6⟩
    · have hvS : (vS (q 145 k) = 117 ∨ vS (q 145 k) = 118 ∨ vS (q 145 k) = 120 ∨ vS (q 145 k) = 121) := by
        unfold vS
        split
        · omega
        · split
          · omega
          · split <;> omega
      obtain ⟨t1, t2, t3, t4⟩ := hT _ y2
      obtain ⟨I1, b1, b2, b3⟩ := c_aV_2 (d + 4) L g (J := J) y2 (V (q 145 k)).length 0 (some w) I (by omega) hT hm
      have v0 : jval (d + 7) 96 24 [.ref 111, .ref n, .ref p, .int (0 : Int32), .int (nI pl), .int (nI i), jjunk] [] (jGs L g, I, J) = jval (d + 7) 96 24 [.ref 111, .ref n, .ref p, .int (0 : Int32), .int (nI (pl + 1)), .int (nI (i + 1)), jjunk] [] (jGs L g, I1, J) := by
        rw [to55 (by omega) (by omega), e_Runner_assign_55, jif_f (show ¬ nI (q 38 pl) = (39 : Int32) from fun e => by have := (nI_eq (b := 39) (by omega) (by omega)).mp e; omega), jif_t rfl, jif_f (show ¬ nI (q 38 pl) < (48 : Int32) from fun e => by have := Eq.mp (zi_lt (b := 48) (by omega) (by omega)) e; omega), jif_t (show (51 : Int32) < nI (q 38 pl) from Eq.mpr (zi_lt (a := 51) (by omega) (by omega)) (by omega)), e_Runner_assign_126, y3, c_varS (d + 6) L g y2, jcI_some, e_Runner_assign_132, c_Runner_appendVariable, e_Runner_appendVariable_0, show (0 : Int32) = nI 0 from rfl, b3, jcV_some, e_Runner_assign_135, nI_1, nI_1]
      refine next (V (q 145 k)) x (pl + 1) (i + 1) I1 J (by unfold uPt; rw [if_neg (by omega), if_pos y1]) t2 hx y4 (by omega) ⟨fun a j hn => b1 a j (by unfold wX at hn; omega), fun _ _ => rfl⟩ (b1 _ _ (by omega)) (b1 _ _ (by omega)) (uT_cg hT (fun j => b1 _ _ (by omega)) (fun j => b1 _ _ (by omega))) hJ b2 (fun _ => v0) (fun h => ?_)
      rw [List.drop_zero, h] at b2
      exact v0.trans (lost _ _ _ I1 J (by omega) b2)
    · obtain ⟨a, x1, x2, x3, x4⟩ := c_patternAt (d + 6) L g hV.1 y2
      obtain ⟨I1, b1, b2, b3, b4⟩ := c_appendAny (d + 1) L g x1 (by unfold okS at x3; omega) (hV.2.2.2.2 _ y2) hx hJ hm
      have v0 : jval (d + 7) 96 24 [.ref 111, .ref n, .ref p, .int (0 : Int32), .int (nI pl), .int (nI i), jjunk] [] (jGs L g, I, J) = jval (d + 7) 96 24 [.ref 111, .ref n, .ref p, .int (0 : Int32), .int (nI (pl + 1)), .int (nI (i + 1)), jjunk] [] (jGs L g, I1, ju J 111 2 (lN (uDr x))) := by
        rw [to55 (by omega) (by omega), e_Runner_assign_55, jif_f (show ¬ nI (q 38 pl) = (39 : Int32) from fun e => by have := (nI_eq (b := 39) (by omega) (by omega)).mp e; omega), jif_t rfl, jif_f (show ¬ nI (q 38 pl) < (48 : Int32) from fun e => by have := Eq.mp (zi_lt (b := 48) (by omega) (by omega)) e; omega), jif_f (show ¬ (51 : Int32) < nI (q 38 pl) from fun e => by have := Eq.mp (zi_lt (a := 51) (by omega) (by omega)) e; omega), hV.2.1, jo_some, if_pos k9, y3, show nI (48 + q 145 k) - (48 : Int32) = nI (q 145 k) by rw [show (48 : Int32) = nI 48 from rfl, zi_sub (by omega), Nat.add_sub_cancel_left], x4, jcR_some, e_Runner_assign_120a, b4, jcV_some, e_Runner_assign_123, e_Runner_assign_135, nI_1, nI_1]
      refine next _ (uDr x) (pl + 1) (i + 1) I1 _ (by unfold uPt; rw [if_pos y1]) b3 (uDr_lt x) y4 (by omega) ⟨fun a j hn => b1 a j (by unfold wX at hn; omega), fun a ha => ju_n ha⟩ (b1 _ _ (by omega)) (b1 _ _ (by omega)) (uT_cg hT (fun j => b1 _ _ (by omega)) (fun j => b1 _ _ (by omega))) (zu_at _ _ _ _) b2 (fun _ => v0) (fun h => ?_)
      rw [h] at b2
      exact v0.trans (lost _ _ _ I1 _ (by omega) b2)
    · have hl := cd_lt y6
      have e1 := uLt_len q (q 146 k) (q 145 k)
      obtain ⟨I1, b1, b2, b3⟩ := c_ra_q d L g (n := n) (p := p) (cc := cc) (pl := pl + 1) (w0 := uLt q (q 145 k) (q 146 k)) (fun x hx => by
        rw [e1] at hx
        rw [uLt_get q _ _ _ hx]
        exact ⟨(y4 x hx).2, (y4 x hx).1⟩) (by omega) h120 (q 146 k) 0 (i + 1) w I J (by omega) (by omega) (by omega) hpg hcc.1 hcc.2.1 hm
      rw [List.drop_zero, Nat.add_zero] at b3
      rw [List.drop_zero] at b2
      have v1 : jval (d + 7) 96 24 [.ref 111, .ref n, .ref p, .int (0 : Int32), .int (nI pl), .int (nI i), jjunk] [] (jGs L g, I, J) = jval (d + 7) 96 24 [.ref 111, .ref n, .ref p, .int (1 : Int32), .int (nI (pl + 1)), .int (nI (i + 1)), jjunk] [] (jGs L g, I, J) := by
        rw [to55 (by omega) (by omega), e_Runner_assign_55, y2, jif_t (by decide), jif_t rfl, e_Runner_assign_73, e_Runner_assign_135, nI_1, nI_1]
      have F1 : eWr I I1 J J := ⟨fun a j hn => b1 a j (by unfold wX at hn; omega), fun _ _ => rfl⟩
      refine next (uLt q (q 145 k) (q 146 k)) x (pl + q 146 k + 2) (i + q 146 k + 2) I1 J (by unfold uPt; rw [if_neg (by omega), if_neg (by omega)]) (kW_of (fun x hx => by rw [e1] at hx; rw [uLt_get q _ _ _ hx]; exact (y4 x hx).1)) hx y6 (by omega) F1 (b1 _ _ (by omega)) (b1 _ _ (by omega)) (uT_cg hT (fun j => b1 _ _ (by omega)) (fun j => b1 _ _ (by omega))) hJ b2 (fun h => ?_) (fun h => ?_)
      · rcases b3 with ⟨z1, -⟩ | ⟨w', z1, z2⟩
        · exact absurd z1 h
        · rw [z1] at b2
          obtain ⟨cc', hpg'⟩ := cV_pgC (cV_f hV F1) hp
          rw [v1, z2, e1, e_Runner_assign_24a, jif_f (show ¬ (120 : Int32) ≤ nI (i + 1 + q 146 k) from nI_ge (b := 120) (by omega) (by omega)), jif_t (show I1 111 4 = 0 from b2.2.2.2), if_pos k6, c_codeAt (d + 6) L g hpg' (by omega), jcI_some, e_Runner_assign_44, y5, jif_f (by decide), if_pos k6, c_codeAt (d + 6) L g hpg' (by omega), jcI_some, e_Runner_assign_55, y5, jif_t (by decide), jif_f (by decide), e_Runner_assign_73, e_Runner_assign_135, nI_1, nI_1, show pl + 1 + q 146 k + 1 = pl + q 146 k + 2 by omega, show i + 1 + q 146 k + 1 = i + q 146 k + 2 by omega]
      · rcases b3 with ⟨z1, z2⟩ | ⟨w', z1, -⟩
        · exact v1.trans z2
        · rw [z1] at h; cases h
/-- a simple statement, which is counted -/
theorem c_st (g : jG) {I : Nat → Nat → Int32} {J : Nat → Nat → Int64} {n a : Nat} {s : uS} (hV : cV L q P D W su sr F g I J) (hU : cU s I J) (kn : gK L g n = 4) (h169 : 171 ≤ n) (hn : nS q I n a) (hb : bS q a) (h1 : 1 ≤ q 138 a) (h3 : q 138 a ≤ 2) : ∃ I' J', eWr I I' J J' ∧ cUo (uS1 q P a s) I' J' ∧ jcall (d + 8) (if q 138 a = 1 then 96 else 101) [.ref 111, .ref n] (jGs L g, I, J) = some (none, (jGs L g, I', J')) := by
  obtain ⟨u1, u2, u3, u4, u5⟩ := hU
  have k4 : (jGs L g).1 n = 4 := kn
  have k9 : (jGs L g).1 su = 9 := hV.1.2.2.1
  unfold uS1
  have F0 : eWr I (ju I 111 9 (0 : Int32)) J J := ⟨fun a j hx => ju_ne (by unfold wX at hx; omega), fun _ _ => rfl⟩
  have V0 := cV_f hV F0
  have T0 : uT s.2.2.2 113 112 (ju I 111 9 (0 : Int32)) := uT_cg u5 (fun j => zu_a (by omega)) (fun j => zu_a (by omega))
  have M0 : mC (some []) (ju I 111 9 (0 : Int32)) := ⟨by show 0 ≤ 40; omega, zu_at _ _ _ _, fun x hx => absurd hx (by show ¬ x < 0; omega), by rw [zu_k (by omega)]; exact u3⟩
  have hc : q 138 a = 1 ∨ q 138 a = 2 := by omega
  rcases hc with e | e
  · rw [if_pos e, if_pos e]
    obtain ⟨v4, lt, le, f, hcd⟩ := hb.1 e
    obtain ⟨n1, n3⟩ := hn.2.1 e
    have b44 := hV.2.2.1.2.1
    obtain ⟨p, hp, -⟩ := hV.1.2.2.2.2.2.2
    have rp : (jGs L g).2.2.1 su 1 = some p := hp
    obtain ⟨I1, J1, c1, c2, c3, c4, c5, c6, c7⟩ := c_ra_24 d L g (n := n) (P := P) (V := s.2.2.2) (e := q 140 a) (by omega) hp f (q 1000 a) (q 139 a) 0 s.1 [] _ J hcd (by omega) (by omega) V0 T0 u1.2 u1.1 M0 kW_nil
    have start : jcall (d + 8) 96 [.ref 111, .ref n] (jGs L g, I, J) = jval (d + 7) 96 144 [.ref 111, .ref n, jjunk, jjunk, jjunk, jjunk, jjunk] [] (jGs L g, I1, J1) := by
      rw [c_Runner_assign, e_Runner_assign_0, hV.2.1, jo_some, if_pos k9, rp, jo_some, if_pos k4, zu_a (show n ≠ 111 by omega), n3, ← c7]
      rfl
    rw [start]
    cases hp' : uPs q P s.2.2.2 (q 140 a - q 139 a) (q 139 a) s.1 [] with
    | none =>
      have h4 := c5 hp'
      refine ⟨I1, J1, eWr_t F0 c1, h4, ?_⟩
      rw [e_Runner_assign_144, jif_f (by rw [h4]; decide), e_Runner_assign_159]
    | some r =>
      obtain ⟨z1, z2, z3, z4⟩ := c6 r hp'
      obtain ⟨I2, b1, b2, b3⟩ := c_keepFresh (d + 6) L g (J := J1) v4 c4 z3 z4
      have n1' : I1 n 1 = nI (q 141 a) := by rw [c1.1 n 1 (by unfold wX; omega), zu_a (by omega)]; exact n1
      refine ⟨I2, J1, eWr_t F0 (eWr_t c1 ⟨fun a j hx => b1 a j (by unfold wX at hx; omega) (by unfold wX at hx; omega), fun _ _ => rfl⟩), ⟨⟨z1, z2⟩, ⟨by rw [b1 _ _ (by omega) (by omega), c2, zu_k (by omega)]; exact u2.1, u2.2⟩, by rw [b1 _ _ (by omega) (by omega)]; exact z3.2.2.2, ⟨by rw [b1 _ _ (by omega) (by omega), c3, zu_k (by omega)]; exact u4.1, u4.2⟩, b2⟩, ?_⟩
      rw [e_Runner_assign_144, jif_t (show I1 111 4 = 0 from z3.2.2.2), if_pos k4, n1', b3, jcV_some, e_Runner_assign_159]
  · rw [if_neg (by omega), if_pos e, if_neg (by omega)]
    obtain ⟨v4, p3, r3⟩ := hb.2.1 e
    obtain ⟨n1, n2, n3⟩ := hn.2.2.1 e
    obtain ⟨t1, t2, t3, t4⟩ := u5 _ v4
    have loop : ∀ m i y (I1 : Nat → Nat → Int32), i + m = (s.2.2.2 (q 139 a)).length → y.length ≤ i → (∀ b j, ¬ (b = 114 ∨ (b = 111 ∧ (j = 4 ∨ j = 9))) → I1 b j = I b j) → mC (some y) I1 → kW y → ∃ I', (∀ b j, b ≠ 112 → b ≠ 113 → ¬ (b = 114 ∨ (b = 111 ∧ (j = 4 ∨ j = 9))) → I' b j = I b j) ∧ I' 111 4 = 0 ∧ uT (jup s.2.2.2 (q 139 a) (y ++ uChg (q 140 a) (q 141 a) ((s.2.2.2 (q 139 a)).drop i))) 113 112 I' ∧ jval (d + 7) 101 7 [.ref 111, .ref n, .int (nI i), jjunk] [] (jGs L g, I1, J) = some (none, (jGs L g, I', J)) := by
      intro m
      induction m with
      | zero =>
        intro i y I1 hi hy o1 hm hW
        obtain ⟨I2, b1, b2, b3⟩ := c_keepFresh (d + 6) L g (J := J) v4 (uT_cg u5 (fun j => o1 _ _ (by omega)) (fun j => o1 _ _ (by omega))) hm hW
        rw [List.drop_eq_nil_of_le (by omega), show uChg (q 140 a) (q 141 a) [] = [] from rfl, List.append_nil]
        refine ⟨I2, fun b j h1 h2 h3 => by rw [b1 b j h1 h2, o1 b j h3], by rw [b1 _ _ (by omega) (by omega)]; exact hm.2.2.2, b2, ?_⟩
        rw [e_Runner_replace_7, if_pos k4, o1 n 1 (by omega), n1, c_lengthOf (d + 6) L g v4, jcI_some, e_Runner_replace_16, o1 113 _ (by omega), t3, jif_t (nI_le (by omega) (by omega)), if_pos k4, o1 n 1 (by omega), n1, b3, jcV_some, e_Runner_replace_75]
      | succ m ih =>
        intro i y I1 hi hy o1 hm hW
        have w3 := kW_get t2 (show i < (s.2.2.2 (q 139 a)).length by omega)
        have ti := t4 i (by omega)
        have hy40 : y.length < 40 := by omega
        rw [drop_c (show i < (s.2.2.2 (q 139 a)).length by omega)]
        generalize (s.2.2.2 (q 139 a)).getD i 0 = l at *
        have start : jval (d + 7) 101 7 [.ref 111, .ref n, .int (nI i), jjunk] [] (jGs L g, I1, J) = jval (d + 7) 101 28 [.ref 111, .ref n, .int (nI i), jjunk] [.int (nI l)] (jGs L g, I1, J) := by
          rw [e_Runner_replace_7, if_pos k4, o1 n 1 (by omega), n1, c_lengthOf (d + 6) L g v4, jcI_some, e_Runner_replace_16, o1 113 _ (by omega), t3, jif_f (nI_ge (by omega) (by omega)), if_pos k4, o1 n 1 (by omega), n1, c_letterOf (d + 6) L g (by omega), jcI_some, o1 112 _ (by omega), ti]
        rw [start, e_Runner_replace_28, if_pos k4, o1 n 2 (by omega), n2]
        -- one letter is added
        have add : ∀ z, z < 3 → ∃ I2, (∀ b j, ¬ (b = 114 ∨ (b = 111 ∧ (j = 4 ∨ j = 9))) → I2 b j = I b j) ∧ mC (some (y ++ [z])) I2 ∧ kW (y ++ [z]) ∧ (y ++ [z]).length ≤ i + 1 ∧ jcall (d + 7) 97 [.ref 111, .int (nI z)] (jGs L g, I1, J) = some (none, (jGs L g, I2, J)) := by
          intro z hz
          obtain ⟨I2, a1, a2, a3⟩ := c_append (d + 6) L g (J := J) (l := z) hm (by omega)
          rw [show uAd (some y) z = some (y ++ [z]) from if_pos hy40] at a2
          refine ⟨I2, fun b j hx => (a1 b j hx).trans (o1 b j hx), a2, fun l hl => ?_, by simp; omega, a3⟩
          rcases List.mem_append.mp hl with e | e
          · exact hW l e
          · have : l = z := by simpa using e
            omega
        unfold uChg
        by_cases h : l = q 140 a
        · rw [if_pos h, jif_t (by rw [h]), if_pos k4, o1 n 3 (by omega), n3]
          unfold oL
          by_cases h3 : q 141 a = 3
          · rw [if_pos h3, if_pos h3, jif_t rfl, e_Runner_replace_61, nI_1]
            exact ih (i + 1) y I1 (by omega) (by omega) o1 hm hW
          · obtain ⟨I2, b1, b2, b3, b4, b5⟩ := add (q 141 a) (by omega)
            rw [if_neg h3, if_neg h3, jif_f (show ¬ nI (q 141 a) = (-1 : Int32) by rw [show (-1 : Int32) = -nI 1 from rfl, zi_m1e (by omega)]; exact id), if_pos k4, b5, jcV_some, e_Runner_replace_61, nI_1, show y ++ q 141 a :: uChg (q 140 a) (q 141 a) ((s.2.2.2 (q 139 a)).drop (i + 1)) = (y ++ [q 141 a]) ++ uChg (q 140 a) (q 141 a) ((s.2.2.2 (q 139 a)).drop (i + 1)) by simp]
            exact ih (i + 1) _ I2 (by omega) b4 b1 b2 b3
        · obtain ⟨I2, b1, b2, b3, b4, b5⟩ := add l w3
          rw [if_neg h, jif_f (fun e => h ((nI_eq (by omega) (by omega)).mp e)), b5, jcV_some, e_Runner_replace_42, e_Runner_replace_61, nI_1, show y ++ l :: uChg (q 140 a) (q 141 a) ((s.2.2.2 (q 139 a)).drop (i + 1)) = (y ++ [l]) ++ uChg (q 140 a) (q 141 a) ((s.2.2.2 (q 139 a)).drop (i + 1)) by simp]
          exact ih (i + 1) _ I2 (by omega) b4 b1 b2 b3
    obtain ⟨I', c1, c2, c3, c4⟩ := loop (s.2.2.2 (q 139 a)).length 0 [] (ju I 111 9 (0 : Int32)) (by omega) (Nat.le_refl _) (fun b j hx => ju_ne (by omega)) M0 kW_nil
    refine ⟨I', J, ⟨fun a j hx => c1 a j (by unfold wX at hx; omega) (by unfold wX at hx; omega) (by unfold wX at hx; omega), fun _ _ => rfl⟩, ⟨u1, ⟨by rw [c1 _ _ (by omega) (by omega) (by omega)]; exact u2.1, u2.2⟩, c2, ⟨by rw [c1 _ _ (by omega) (by omega) (by omega)]; exact u4.1, u4.2⟩, c3⟩, ?_⟩
    rw [c_Runner_replace, e_Runner_replace_0, show jval (d + 7) 101 7 [.ref 111, .ref n, .int (0 : Int32), jjunk] [] (jGs L g, ju I 111 9 (0 : Int32), J) = some (none, (jGs L g, I', J)) from c4]
end CC

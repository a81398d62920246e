/-! ANALYSIS, THE CLASS: a state is set, a head grows -/
set_option maxRecDepth 100000
theorem cZs_fr {L s : Nat} {o : Option yV} {g : jG} {I I1 : Nat → Nat → Int32} {J J1 : Nat → Nat → Int64} (h : cZs L g I J s o) (hI : ∀ a, s ≤ a → a ≤ s + 5 → I1 a = I a ∧ J1 a = J a) : cZs L g I1 J1 s o := by
  obtain ⟨V, h1, h2⟩ := h
  refine ⟨V, fun v hv => cR_cg L g (h1 v hv) rfl (hI _ (by omega) (by omega)).1 (hI _ (by omega) (by omega)).2, ?_⟩
  rw [(hI s (by omega) (by omega)).1]
  exact h2
theorem stA_d {s t : Nat} (hs : stA s) (ht : stA t) (h : s ≠ t) : s + 5 < t ∨ t + 5 < s := by
  rcases hs with e | ⟨i, hi, e⟩ <;> rcases ht with e' | ⟨j, hj, e'⟩ <;> omega
theorem fX_s {L s out PC PQ : Nat} {g g1 : jG} {I I1 : Nat → Nat → Int32} {J J1 : Nat → Nat → Int64} (hst : stA s) (hI : mkI L g I PC PQ) (hf : fX L g g1 I I1 J J1 out) (ho : s ≠ out) : I1 s = I s := by
  have hC := mkI_C hI
  have hl := stA_lt hst
  have kk := (stA_f L g hst).1
  exact ((hf.1 s (by omega) (mkO_K hI (by omega) (by omega) (by omega) (by omega))).1 ho).1
section CC
variable (d L : Nat) {q : Nat → Nat → Nat} {P : Nat → kA} {D W su sr F PC PQ : Nat}
theorem c_stSetB (g : jG) {I : Nat → Nat → Int32} {J : Nat → Nat → Int64} {s t k : Nat} {o : Option yV} (hs : stA s) (ht : stA t) (hst : s ≠ t) (hk : s = 40 ∨ 51 + 12 * k ≤ s) (hB : cB L q P D W su sr F PC PQ g I J) (h : cZs L g I J t o) : ∃ I' J', cB L q P D W su sr F PC PQ g I' J' ∧ fZ L k sr g g I I' J J' ∧ eH sr I I' ∧ cZs L g I' J' s o ∧ (∀ t' o', stA t' → t' ≠ s → cZs L g I J t' o' → cZs L g I' J' t' o') ∧ jcall (d + 2) 110 [.ref s, .ref t] (jGs L g, I, J) = some (none, (jGs L g, I', J')) := by
  obtain ⟨I', J', a1, a2, a3⟩ := c_stSet d L g hs ht hst h
  have hl := stA_lt hs
  have h8 := hB.2.2.1.2.2.2.1
  have hs51 : s = 40 ∨ 51 ≤ s := by omega
  obtain ⟨B1, Z1⟩ := cB_o (k := k) (I1 := I') (J1 := J') hB (fun a ha => a1 a (by unfold zX at ha; omega))
  exact ⟨I', J', B1, Z1, ⟨(a1 39 (by omega)).1, (a1 49 (by omega)).1, (a1 sr (by omega)).1⟩, a2, fun t' o' h1 h2 h3 => cZs_fr h3 (fun a y1 y2 => a1 a (by have := stA_d h1 hs h2; omega)), a3⟩
theorem c_grow (g0 : jG) {I0 : Nat → Nat → Int32} {J0 : Nat → Nat → Int64} {k r : Nat} {H V : yV} (hk : k < 5) (hr : r < 25) (hB0 : cB L q P D W su sr F PC PQ g0 I0 J0) (hs0 : cZs L g0 I0 J0 40 (some V)) (hH0 : cZs L g0 I0 J0 (51 + 12 * k) (some H)) : ∃ g' I' J', cB L q P D W su sr F PC PQ g' I' J' ∧ fZ L k sr g0 g' I0 I' J0 J' ∧ eH sr I0 I' ∧ cZs L g' I' J' (51 + 12 * k) (some (yNxt D W r H (some V))) ∧ jcall (d + 5) 14 [.ref 39, .ref (51 + 12 * k), .int (nI r)] (jGs L g0, I0, J0) = some (some (.int (bI (yOt H V 4))), (jGs L g', I', J')) := by
  have hst : stA (51 + 12 * k) := Or.inr ⟨2 * k, by omega, by omega⟩
  have h40 : stA 40 := Or.inl rfl
  have loop : ∀ m v (g : jG) (I : Nat → Nat → Int32) (J : Nat → Nat → Int64), v + m = 4 → cB L q P D W su sr F PC PQ g I J → cZs L g I J 40 (some V) → (∀ w, w < 4 → cR L g I J (51 + 12 * k + 2 + w) (if w < v then yG1 D W r H V w else H w)) → I (51 + 12 * k) 1 = nI 1 → ∃ g' I' J', cB L q P D W su sr F PC PQ g' I' J' ∧ fZ L k sr g g' I I' J J' ∧ eH sr I I' ∧ cZs L g' I' J' (51 + 12 * k) (some (yNxt D W r H (some V))) ∧ jval (d + 4) 14 5 [.ref 39, .ref (51 + 12 * k), .int (nI r), .int (bI (yOt H V v)), .int (nI v), jjunk] [] (jGs L g, I, J) = some (some (.int (bI (yOt H V 4))), (jGs L g', I', J')) := by
    intro m
    induction m with
    | zero =>
      intro v g I J hm hB hs hH h1
      have e : v = 4 := by omega
      subst e
      refine ⟨g, I, J, hB, fZ_r, eH_r, ⟨_, fun w hw => ?_, Or.inr ⟨rfl, h1⟩⟩, ?_⟩
      · show cR L g I J (51 + 12 * k + 2 + w) (if w < 4 then yG1 D W r H V w else H w)
        exact hH w hw
      · rw [e_Analysis_grow_5, jif_t (show (4 : Int32) ≤ nI 4 from Int32.le_refl _), jif_t (by cases yOt H V 4 <;> decide)]
    | succ m ih =>
      intro v g I J hm hB hs hH h1
      have hv : v < 4 := by omega
      have hC := mkI_C hB.1.1
      obtain ⟨lv, -⟩ := cZs_v hs
      have hHv := hH v hv
      rw [if_neg (Nat.lt_irrefl v)] at hHv
      have k10 : (jGs L g).1 (51 + 12 * k) = 10 := (stA_f L g hst).1
      obtain ⟨g1, I1, J1, b1, b2, b3, b4⟩ := c_join (d + 1) L g (a := 51 + 12 * k + 2 + v) (b := 40 + 2 + v) (out := 47) hB.1.1 hHv (lv v hv) rfl (by omega)
      obtain ⟨B1, Z1, E1⟩ := cB_op (k := k) hB b2 b1 (Or.inr (Or.inl rfl))
      have S1 : cZs L g1 I1 J1 40 (some V) := cZs_ne h40 hs hB.1.1 b2 (by omega)
      have H1 : ∀ w, w < 4 → cR L g1 I1 J1 (51 + 12 * k + 2 + w) (if w < v then yG1 D W r H V w else H w) := fun w hw => fX_R b2 hB.1.1 (hH w hw) (by omega) (by omega)
      have H1v : cR L g1 I1 J1 (51 + 12 * k + 2 + v) (H v) := fX_R b2 hB.1.1 hHv (by omega) (by omega)
      have i1 : I1 (51 + 12 * k) 1 = nI 1 := by rw [fX_s hst hB.1.1 b2 (by omega)]; exact h1
      have b3' : cR L g1 I1 J1 47 (yJ1 H V v) := b3
      have hC1 := mkI_C b1
      have kv1 : gK L g1 (51 + 12 * k + 2 + v) = 2 := H1v.1
      have kv1' : (jGs L g1).1 (51 + 12 * k + 2 + v) = 2 := H1v.1
      have k9 : (jGs L g1).1 su = 9 := B1.2.2.2.1.2.2.1
      have next : ∀ g2 I2 J2, mkI L g2 I2 PC PQ → fX L g1 g2 I1 I2 J1 J2 (51 + 12 * k + 2 + v) → cR L g2 I2 J2 (51 + 12 * k + 2 + v) (yG1 D W r H V v) → ∃ g' I' J', cB L q P D W su sr F PC PQ g' I' J' ∧ fZ L k sr g g' I I' J J' ∧ eH sr I I' ∧ cZs L g' I' J' (51 + 12 * k) (some (yNxt D W r H (some V))) ∧ jval (d + 4) 14 112 [.ref 39, .ref (51 + 12 * k), .int (nI r), .int (bI (yOt H V (v + 1))), .int (nI v), jjunk] [] (jGs L g2, I2, J2) = some (some (.int (bI (yOt H V 4))), (jGs L g', I', J')) := by
        intro g2 I2 J2 m1 m2 m3
        obtain ⟨B2, Z2, E2⟩ := cB_op (k := k) B1 m2 m1 (by omega)
        obtain ⟨g', I', J', c1, c2, c3, c4, c5⟩ := ih (v + 1) g2 I2 J2 (by omega) B2 (cZs_ne h40 S1 b1 m2 (by omega)) (fun w hw => by
          by_cases e : w = v
          · rw [e, if_pos (by omega)]; exact m3
          · have := fX_R m2 b1 (H1 w hw) (by omega) (by omega)
            by_cases hlt : w < v
            · rw [if_pos hlt] at this; rw [if_pos (by omega)]; exact this
            · rw [if_neg hlt] at this; rw [if_neg (by omega)]; exact this) (by rw [fX_s hst b1 m2 (by omega)]; exact i1)
        refine ⟨g', I', J', c1, fZ_t Z1 (fZ_t Z2 c2), eH_t E1 (eH_t E2 c3), c4, ?_⟩
        rw [e_Analysis_grow_112, nI_1]
        exact c5
      have start : jval (d + 4) 14 5 [.ref 39, .ref (51 + 12 * k), .int (nI r), .int (bI (yOt H V v)), .int (nI v), jjunk] [] (jGs L g, I, J) = jval (d + 4) 14 50 [.ref 39, .ref (51 + 12 * k), .int (nI r), .int (bI (yOt H V v)), .int (nI v), .ref (51 + 12 * k + 2 + v)] [.int (bI (jb (yJ1 H V v = H v)))] (jGs L g1, I1, J1) := by
        rw [e_Analysis_grow_5, jif_f (show ¬ (4 : Int32) ≤ nI v from nI_ge (b := 4) (by omega) (by omega)), if_pos k10, c_at (d + 3) L g hst hv, jcR_some, e_Analysis_grow_17a, c_at (d + 3) L g h40 hv, jcR_some, e_Analysis_grow_34c, b4, jcV_some, e_Analysis_grow_41a, c_isSame (d + 3) L g1 b3' H1v, jcI_some]
      rw [start, e_Analysis_grow_50a]
      by_cases hsame : yJ1 H V v = H v
      · have ev : yG1 D W r H V v = H v := by unfold yG1; rw [jif_t hsame]
        have eo : yOt H V (v + 1) = yOt H V v := by
          show (yOt H V v || jb (¬ yJ1 H V v = H v)) = yOt H V v
          rw [jb_f.mpr (fun h => h hsame), Bool.or_false]
        rw [jb_t.mpr hsame, jif_f (by decide)]
        have := next g1 I1 J1 b1 (fX_one (fun _ _ => ⟨rfl, rfl⟩)) (by rw [ev]; exact H1v)
        rw [eo] at this
        exact this
      · have eo : yOt H V (v + 1) = true := by
          show (yOt H V v || jb (¬ yJ1 H V v = H v)) = true
          rw [jb_t.mpr hsame, Bool.or_true]
        rw [jb_f.mpr hsame, jif_t (by decide)]
        rw [eo] at next
        by_cases h20 : 20 ≤ r
        · obtain ⟨I2, J2, m1, m2, m3⟩ := c_makeAll (d + 3) L g1 (I := I1) (J := J1) kv1
          rw [jif_f (show ¬ nI r < (20 : Int32) from fun e => by have := Eq.mp (zi_lt (b := 20) (by omega) (by omega)) e; omega), if_pos kv1', m3, jcV_some, e_Analysis_grow_66]
          exact next g1 I2 J2 (mkI_out L g1 b1 kv1 (fun x hx => (m1 x hx).1)) (fX_one m1) (by unfold yG1; rw [jif_f hsame, if_pos h20]; exact m2)
        · rw [jif_t (show nI r < (20 : Int32) from Eq.mpr (zi_lt (b := 20) (by omega) (by omega)) (by omega)), B1.2.1.1, jo_some, if_pos k9, B1.2.2.2.1.2.2.2.1]
          have hD := hB.2.2.2.2.1
          by_cases hrd : D ≤ r
          · obtain ⟨g2, I2, J2, m1, m2, m3, m4⟩ := c_widen (d + 1) L g1 (w := W) (out := 51 + 12 * k + 2 + v) b1 b3' (by omega) hB.2.2.2.2.2.1 kv1 (by omega)
            rw [jif_f (show ¬ nI r < nI D from fun e => by have := Eq.mp (zi_lt (by omega) (by omega)) e; omega), jo_some, if_pos k9, B1.2.2.2.1.2.2.2.2.1, m4, jcV_some, e_Analysis_grow_100]
            exact next g2 I2 J2 m1 m2 (by unfold yG1; rw [jif_f hsame, if_neg h20, if_pos hrd]; exact m3)
          · obtain ⟨I2, J2, m1, m2, m3, m4⟩ := c_setB (d + 3) L g1 (a := 51 + 12 * k + 2 + v) B1 kv1 b3'
            rw [jif_t (show nI r < nI D from Eq.mpr (zi_lt (by omega) (by omega)) (by omega)), if_pos kv1', m4, jcV_some]
            exact next g1 I2 J2 m1 m2 (by unfold yG1; rw [jif_f hsame, if_neg h20, if_neg hrd]; exact m3)
  obtain ⟨lh, l1⟩ := cZs_v hH0
  obtain ⟨g', I', J', c1, c2, c3, c4, c5⟩ := loop 4 0 g0 I0 J0 (by omega) hB0 hs0 (fun w hw => by rw [if_neg (by omega)]; exact lh w hw) l1
  refine ⟨g', I', J', c1, c2, c3, c4, ?_⟩
  rw [c_Analysis_grow, e_Analysis_grow_0]
  exact c5
end CC

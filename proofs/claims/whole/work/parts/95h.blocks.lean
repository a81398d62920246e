/-! ANALYSIS, THE REFERENCE: branches and loops -/
set_option maxRecDepth 100000
noncomputable def yMore (H : yV) : Option yV → Bool
  | none => false
  | some V => yOt H V 4
noncomputable def yNxt (D W r : Nat) (H : yV) : Option yV → yV
  | none => H
  | some V => fun v => if v < 4 then yG1 D W r H V v else H v
theorem yOt_f {H V : yV} : ∀ n, yOt H V n = false → ∀ v, v < n → yJ1 H V v = H v := by
  intro n
  induction n with
  | zero => intro _ v hv; omega
  | succ n ih =>
    intro h v hv
    have h' : (yOt H V n || jb (¬ yJ1 H V n = H n)) = false := h
    rw [Bool.or_eq_false_iff] at h'
    by_cases e : v = n
    · subst e
      exact Classical.byContradiction (fun hn => by rw [jb_t.mpr hn] at h'; cases h'.2)
    · exact ih h'.1 v (by omega)
theorem yNxt_no {D W r : Nat} {H : yV} {s : Option yV} (h : yMore H s = false) : yNxt D W r H s = H := by
  cases s with
  | none => rfl
  | some V =>
    funext v
    show (if v < 4 then yG1 D W r H V v else H v) = H v
    split
    · next hv =>
      unfold yG1
      rw [jif_t (yOt_f 4 h v hv)]
    · rfl
theorem yTo_5 {m : Nat} {q : Nat → Nat → Nat} {P : Nat → kA} {a : Nat} {s : Option yV} (h : ¬ (q 138 a = 4 ∨ q 138 a = 6)) : yTo m q P a s = s := by
  cases s with
  | none => rfl
  | some V =>
    show yTs m q P a V = _
    unfold yTs
    rw [if_neg h]
theorem fY_55 (k : Nat) (I : Nat → Nat → Int32) (x : Int32) : fY k I (ju I 117 55 x) := ⟨fun x j hx => ju_ne (by unfold yX at hx; omega), fun j _ => zu_a (by omega), fun j _ _ => zu_a (by omega), fun j _ => zu_a (by omega)⟩
theorem rG_55 {q : Nat → Nat → Nat} {G : yG} {o m : Nat} {I : Nat → Nat → Int32} {x : Int32} (hg : rG q G o m I) : rG q G o m (ju I 117 55 x) := ⟨by rw [zu_k (by omega)]; exact hg.1, by rw [zu_k (by omega)]; exact hg.2.1, hg.2.2.1, hg.2.2.2.1, fun j hj => rRa_cg (hg.2.2.2.2 j hj) (zu_a (by omega)) (fun x _ => zu_a (by omega))⟩
theorem rSt_55 {h : Nat} {s : Option yV} {I : Nat → Nat → Int32} {x : Int32} (hs : rSt I h s) : rSt (ju I 117 55 x) h s := rSt_cg hs (zu_a (by omega)) (fun v hv c hc => zu_a (by omega))
theorem rB_55 {q : Nat → Nat → Nat} {P : Nat → kA} {D W : Nat} {I : Nat → Nat → Int32} {x : Int32} (h : rB q P D W I) : rB q P D W (ju I 117 55 x) := rB_f h (fY_55 0 I x) (fun y hy => by rw [zu_a (by omega)]; exact h.2.2.1 y hy)
section MM
variable (d L : Nat) (g : jG) {J : Nat → Nat → Int64}
/-- a branch's second part -/
theorem r_brM {q : Nat → Nat → Nat} {P : Nat → kA} {D W a c k o m : Nat} {s0 s1 : Option yV} {G : yG} {I : Nat → Nat → Int32} (hB : rB q P D W I) (hH : rSt I (8 + 8 * k) s0) (hs : rSt I 4 s1) (hG : rG q G o m I) (hk : k < 5) (h55 : I 117 55 = nI (k + 1)) (hc : c < q 117 35) (hb : bS q a) (hkd : q 138 a = 4 ∨ q 138 a = 5) (c8 : q 138 c = 8) (c9 : q 139 c = q 139 a) (c0 : q 140 c = q 140 a) (c1 : q 141 c = q 138 a) : ∃ I', fY k I I' ∧ rB q P D W I' ∧ I' 117 55 = nI (k + 1) ∧ rSt I' (8 + 8 * k + 4) s1 ∧ rSt I' 4 (yTo 2 q P a s0) ∧ rG q G o m I' ∧ jval (d + 13) 229 77 [.ref 117, .int (nI c)] [] (jGs L g, I, J) = jval (d + 13) 229 77 [.ref 117, .int (nI (c + 1))] [] (jGs L g, I', J) := by
  have b35 := hB.2.2.2.2.2.2.2.2.2.1
  have ca : (nI c).toNatClampNeg = c := nI_c (by omega)
  have ja : jin (nI c) 130 = true := jin_nI (by omega) (by omega)
  obtain ⟨I1, a1, a2, a3, a4, a5⟩ := r_copiesAll (d + 9) L g (J := J) (I := I) (a := 4) (b := 8 + 8 * k + 4) (by omega) (by omega) (by omega)
  have F1 := fY_cp (k := k) a1 a2 a3 (Or.inr (by omega))
  obtain ⟨I2, b1, b2, b3, b4, b5⟩ := r_copiesAll (d + 9) L g (J := J) (I := I1) (a := 8 + 8 * k) (b := 4) (by omega) (by omega) (by omega)
  have F2 := fY_cp (k := k) b1 b2 b3 (Or.inl rfl)
  have F12 := fY_t F1 F2
  have z2 : ∀ y, y < 10240 → I2 125 y = 0 := fun y hy => by rw [b1 _ _ (by omega) (by omega), a1 _ _ (by omega) (by omega)]; exact hB.2.2.1 y hy
  have B2 := rB_f hB F12 z2
  have i55 : I2 117 55 = nI (k + 1) := by rw [b1 _ _ (by omega) (by omega), a1 _ _ (by omega) (by omega)]; exact h55
  have G2 := rG_e hG (eG_t (eG_cp a1) (eG_cp b1))
  have SH : rSt I2 (8 + 8 * k + 4) s1 := rSt_cg (a4 _ hs) (b3 _ (by omega)) (fun v hv c hc => b2 _ (by omega))
  have S4 : rSt I2 4 s0 := b4 _ (rSt_cg hH (a3 _ (by omega)) (fun v hv c hc => a2 _ (by omega)))
  have start : jval (d + 13) 229 77 [.ref 117, .int (nI c)] [] (jGs L g, I, J) = jcI (jcV (jval (d + 11) 226 27 [.ref 117, .int (nI c), jjunk] [] (jGs L g, I2, J)) (fun S1 => jval (d + 12) 227 139 [jjunk, .int (nI c)] [] S1)) (fun r S => jval (d + 13) 229 90 [.ref 117, jjunk] [.int r] S) := by
    rw [r_an_at d L g hB.1 hc b35, r_go_at d L g hB.1 hc b35 rfl (by omega) (by omega), c8]
    show jcI (jval (d + 12) 227 134 _ _ _) _ = _
    rw [e_TextValuesModel_goes_134, c_TextValuesModel_turns, e_TextValuesModel_turns_0, h55, show (8 : Int32) = nI 8 from rfl, show (1 : Int32) = nI 1 from rfl, zi_sub (by omega), show k + 1 - 1 = k by omega, nI_mul, nI_add, show (4 : Int32) = nI 4 from rfl, nI_add, a5, jcV_some, e_TextValuesModel_turns_21, show (4 : Int32) = nI 4 from rfl, b5, jcV_some]
  obtain ⟨q1, q2, q3, q4, -⟩ := B2.1.2.1 c hc
  rw [start, e_TextValuesModel_turns_27, ja, ca, cond_true, q2, q3, q4, c1, c9, c0]
  by_cases h4 : q 138 a = 4
  · obtain ⟨I', e1, e2, e3, e4, e5⟩ := r_askO (d + 1) L g (J := J) (m := 2) B2 S4 (Or.inr rfl) hb (Or.inl h4)
    refine ⟨I', fY_t F12 (fY_w e1 (by omega)), e2, (e3.1 55 (by omega)).trans i55, rSt_cg SH (e1.2.2.1 _ (by omega) (by omega)) (fun v hv c hc => e1.2.1 _ (by omega)), e4, rG_e G2 e3, ?_⟩
    rw [jif_t (by rw [h4]; rfl), cond_true, cond_true, show (2 : Int32) = nI 2 from rfl, e5, jcV_some, e_TextValuesModel_turns_54, jcV_some, e_TextValuesModel_goes_139, jcI_some, e_TextValuesModel_foretells_90, nI_1]
  · refine ⟨_, F12, B2, i55, SH, ?_, G2, ?_⟩
    · rw [yTo_5 (by omega)]; exact S4
    · rw [jif_f (show ¬ nI (q 138 a) = (4 : Int32) from fun e => h4 ((nI_eq (b := 4) (by omega) (by omega)).mp e)), e_TextValuesModel_turns_54, jcV_some, e_TextValuesModel_goes_139, jcI_some, e_TextValuesModel_foretells_90, nI_1]
/-- a branch ends -/
theorem r_brE {q : Nat → Nat → Nat} {P : Nat → kA} {D W a c k o m : Nat} {s0 s1 : Option yV} {G : yG} {I : Nat → Nat → Int32} (hB : rB q P D W I) (hH : rSt I (8 + 8 * k + 4) s0) (hs : rSt I 4 s1) (hG : rG q G o m I) (hk : k < 5) (h55 : I 117 55 = nI (k + 1)) (hc : c < q 117 35) (hkd : q 138 a = 4 ∨ q 138 a = 5) (c8 : q 138 c = 9) (c1 : q 141 c = q 138 a) : ∃ I', fY k I I' ∧ rB q P D W I' ∧ I' 117 55 = nI k ∧ rSt I' 4 (yJn s0 s1) ∧ rG q G o m I' ∧ jval (d + 13) 229 77 [.ref 117, .int (nI c)] [] (jGs L g, I, J) = jval (d + 13) 229 77 [.ref 117, .int (nI (c + 1))] [] (jGs L g, I', J) := by
  have b35 := hB.2.2.2.2.2.2.2.2.2.1
  have ca : (nI c).toNatClampNeg = c := nI_c (by omega)
  have ja : jin (nI c) 130 = true := jin_nI (by omega) (by omega)
  obtain ⟨q1, q2, q3, q4, -⟩ := hB.1.2.1 c hc
  have B1 : rB q P D W (ju I 117 55 (nI k)) := rB_55 hB
  obtain ⟨I', e1, e2, e3, e4, e5⟩ := r_joins (d + 1) L g (J := J) (h := 8 + 8 * k + 4) (by omega) (by omega) (rSt_55 (x := nI k) hH) (rSt_55 (x := nI k) hs) B1.2.2.1
  refine ⟨I', fY_t (fY_55 k I _) (fY_w e1 (by omega)), rB_f B1 e1 e2, (e3.1 55 (by omega)).trans (zu_at _ _ _ _), e4, rG_e (rG_55 hG) e3, ?_⟩
  rw [r_an_at d L g hB.1 hc b35, r_go_at d L g hB.1 hc b35 rfl (by omega) (by omega), c8]
  show jcI (jval (d + 12) 227 149 _ _ _) _ = _
  rw [e_TextValuesModel_goes_149, ja, ca, cond_true, q4, c1, c_TextValuesModel_endsBlock, e_TextValuesModel_endsBlock_0, jif_f (show ¬ nI (q 138 a) = (6 : Int32) from fun e => by have := (nI_eq (b := 6) (by omega) (by omega)).mp e; omega), jif_f (show ¬ nI (q 138 a) = (7 : Int32) from fun e => by have := (nI_eq (b := 7) (by omega) (by omega)).mp e; omega), h55, show (8 : Int32) = nI 8 from rfl, show (1 : Int32) = nI 1 from rfl, zi_sub (by omega), show k + 1 - 1 = k by omega, nI_mul, nI_add, show (4 : Int32) = nI 4 from rfl, nI_add, e5, jcV_some, e_TextValuesModel_endsBlock_44, jcI_some, e_TextValuesModel_goes_160, jcI_some, e_TextValuesModel_foretells_90, nI_1]
/-- a loop that is not reached -/
theorem r_lpA_off {q : Nat → Nat → Nat} {P : Nat → kA} {D W a e : Nat} {I : Nat → Nat → Int32} (hB : rB q P D W I) (hs : rSt I 4 none) (ha : a < q 117 35) (hkd : q 138 a = 6 ∨ q 138 a = 7) (he : q 142 a = e + 1) : jval (d + 13) 229 77 [.ref 117, .int (nI a)] [] (jGs L g, I, J) = jval (d + 13) 229 77 [.ref 117, .int (nI (e + 1))] [] (jGs L g, I, J) := by
  have b35 := hB.2.2.2.2.2.2.2.2.2.1
  have ca : (nI a).toNatClampNeg = a := nI_c (by omega)
  have ja : jin (nI a) 130 = true := jin_nI (by omega) (by omega)
  obtain ⟨q1, q2, q3, q4, q5⟩ := hB.1.2.1 a ha
  have ne : I 151 (4 : Int32).toNatClampNeg = (1 : Int32) := i151n hs
  rw [r_an_at d L g hB.1 ha b35, r_go_at d L g hB.1 ha b35 rfl (by omega) (by omega)]
  have e143 : (if q 138 a = 1 then 52 else if q 138 a = 2 then 70 else if q 138 a = 3 then 107 else if q 138 a = 4 then 125 else if q 138 a = 5 then 125 else if q 138 a = 6 then 143 else if q 138 a = 7 then 143 else if q 138 a = 8 then 134 else 149) = 143 := by rcases hkd with e | e <;> rw [e] <;> rfl
  rw [e143, e_TextValuesModel_goes_143, c_TextValuesModel_loops, e_TextValuesModel_loops_0, show jin (4 : Int32) 56 = true from jin_nI (n := 4) (by omega) (by omega), cond_true, jif_t ne, ja, ca, cond_true, q5 e he, jcI_some, e_TextValuesModel_goes_148, jcI_some, e_TextValuesModel_foretells_90, nI_1]
/-- a loop begins -/
theorem r_lpA {q : Nat → Nat → Nat} {P : Nat → kA} {D W a k o m : Nat} {V : yV} {G : yG} {I : Nat → Nat → Int32} (hB : rB q P D W I) (hs : rSt I 4 (some V)) (hG : rG q G o m I) (hk : k < 5) (h55 : I 117 55 = nI k) (ha : a < q 117 35) (hb : bS q a) (hkd : q 138 a = 6 ∨ q 138 a = 7) : ∃ I', fY k I I' ∧ rB q P D W I' ∧ I' 117 55 = nI (k + 1) ∧ I' 152 k = nI 0 ∧ rSt I' (8 + 8 * k) (some V) ∧ rSt I' 4 (yTs 1 q P a V) ∧ rG q G o m I' ∧ jval (d + 13) 229 77 [.ref 117, .int (nI a)] [] (jGs L g, I, J) = jval (d + 13) 229 77 [.ref 117, .int (nI (a + 1))] [] (jGs L g, I', J) := by
  have b35 := hB.2.2.2.2.2.2.2.2.2.1
  have ca : (nI a).toNatClampNeg = a := nI_c (by omega)
  have ja : jin (nI a) 130 = true := jin_nI (by omega) (by omega)
  obtain ⟨I1, a1, a2, a3, a4, a5⟩ := r_copiesAll (d + 9) L g (J := J) (I := I) (a := 4) (b := 8 + 8 * k) (by omega) (by omega) (by omega)
  have F1 := fY_cp (k := k) a1 a2 a3 (Or.inr (by omega))
  have i55 : I1 117 55 = nI k := (a1 _ _ (by omega) (by omega)).trans h55
  have F2 : fY k I1 (ju I1 152 k (nI 0)) := ⟨fun x j hx => ju_ne (by unfold yX at hx; omega), fun j _ => zu_a (by omega), fun j _ _ => zu_a (by omega), fun j hj => zu_k (by omega)⟩
  have B1 : rB q P D W (ju (ju I1 152 k (nI 0)) 117 55 (nI (k + 1))) := rB_55 (rB_f hB (fY_t F1 F2) (fun y hy => by rw [zu_a (by omega), a1 _ _ (by omega) (by omega)]; exact hB.2.2.1 y hy))
  have F12 := fY_t (fY_t F1 F2) (fY_55 k (ju I1 152 k (nI 0)) (nI (k + 1)))
  have S4 : rSt (ju (ju I1 152 k (nI 0)) 117 55 (nI (k + 1))) 4 (some V) := rSt_55 (rSt_cg hs (by rw [zu_a (by omega)]; exact a3 4 (by omega)) (fun v hv c hc => by rw [zu_a (by omega)]; exact a2 _ (by omega)))
  have SH : rSt (ju (ju I1 152 k (nI 0)) 117 55 (nI (k + 1))) (8 + 8 * k) (some V) := rSt_55 (rSt_cg (a4 _ hs) (zu_a (by omega)) (fun v hv c hc => zu_a (by omega)))
  have G2 : rG q G o m (ju (ju I1 152 k (nI 0)) 117 55 (nI (k + 1))) := rG_55 (rG_e (rG_e hG (eG_cp a1)) ⟨fun j _ => zu_a (by omega), fun j => zu_a (by omega), fun j => zu_a (by omega)⟩)
  have r0 : (ju (ju I1 152 k (nI 0)) 117 55 (nI (k + 1))) 152 k = nI 0 := by rw [zu_a (by omega), zu_at]
  obtain ⟨q1, q2, q3, q4, -⟩ := B1.1.2.1 a ha
  have r1 : ∀ x, x = 138 ∨ x = 139 ∨ x = 140 → (ju (ju I1 152 k (nI 0)) 117 55 (nI (k + 1))) x a = I1 x a := fun x hx => by rw [zu_a (by omega), zu_a (by omega)]
  have ne : ¬ I 151 (4 : Int32).toNatClampNeg = (1 : Int32) := by rw [show I 151 (4 : Int32).toNatClampNeg = (0 : Int32) from i151 hs]; decide
  have start : jval (d + 13) 229 77 [.ref 117, .int (nI a)] [] (jGs L g, I, J) = jcI (jcI (jval (d + 11) 223 28 [.ref 117, .int (nI a)] [] (jGs L g, I1, J)) (fun r S1 => jval (d + 12) 227 148 [jjunk, jjunk] [.int r] S1)) (fun r S => jval (d + 13) 229 90 [.ref 117, jjunk] [.int r] S) := by
    rw [r_an_at d L g hB.1 ha b35, r_go_at d L g hB.1 ha b35 rfl (by omega) (by omega)]
    have e143 : (if q 138 a = 1 then 52 else if q 138 a = 2 then 70 else if q 138 a = 3 then 107 else if q 138 a = 4 then 125 else if q 138 a = 5 then 125 else if q 138 a = 6 then 143 else if q 138 a = 7 then 143 else if q 138 a = 8 then 134 else 149) = 143 := by rcases hkd with e | e <;> rw [e] <;> rfl
    rw [e143, e_TextValuesModel_goes_143, c_TextValuesModel_loops, e_TextValuesModel_loops_0, show jin (4 : Int32) 56 = true from jin_nI (n := 4) (by omega) (by omega), cond_true, jif_f ne, c_TextValuesModel_head, e_TextValuesModel_head_0, h55, show (8 : Int32) = nI 8 from rfl, nI_mul, nI_add, jcI_some, e_TextValuesModel_loops_25, show (4 : Int32) = nI 4 from rfl, a5, jcV_some]
  rw [start, e_TextValuesModel_loops_28, ja, ca, cond_true, i55, jin_nI (by omega) (by omega), cond_true, nI_c (by omega), nI_1, show (0 : Int32) = nI 0 from rfl, ← r1 138 (by omega), ← r1 139 (by omega), ← r1 140 (by omega), q1, q2, q3]
  by_cases h6 : q 138 a = 6
  · obtain ⟨I', c1, c2, c3, c4, c5⟩ := r_askO (d + 1) L g (J := J) (m := 1) B1 S4 (Or.inl rfl) hb (Or.inr h6)
    refine ⟨I', fY_t F12 (fY_w c1 (by omega)), c2, (c3.1 55 (by omega)).trans (zu_at _ _ _ _), ?_, rSt_cg SH (c1.2.2.1 _ (by omega) (by omega)) (fun v hv c hc => c1.2.1 _ (by omega)), c4, rG_e G2 c3, ?_⟩
    · rw [c1.2.2.2 _ hk]; exact r0
    · rw [jif_t (by rw [h6]; rfl), cond_true, cond_true, show (1 : Int32) = nI 1 from rfl, c5, jcV_some, e_TextValuesModel_loops_76, jcI_some, e_TextValuesModel_goes_148, jcI_some, e_TextValuesModel_foretells_90, show (1 : Int32) = nI 1 from rfl, nI_add]
  · refine ⟨_, F12, B1, zu_at _ _ _ _, r0, SH, ?_, G2, ?_⟩
    · have := yTo_5 (m := 1) (P := P) (s := some V) (q := q) (a := a) (by omega)
      rw [show yTs 1 q P a V = some V from this]
      exact S4
    · rw [jif_f (show ¬ nI (q 138 a) = (6 : Int32) from fun e => h6 ((nI_eq (b := 6) (by omega) (by omega)).mp e)), e_TextValuesModel_loops_76, jcI_some, e_TextValuesModel_goes_148, jcI_some, e_TextValuesModel_foretells_90, nI_1]
/-- a loop's end -/
theorem r_lpE {q : Nat → Nat → Nat} {P : Nat → kA} {D W a e k r o m : Nat} {H : yV} {s : Option yV} {G : yG} {I : Nat → Nat → Int32} (hB : rB q P D W I) (hk : k < 5) (h55 : I 117 55 = nI (k + 1)) (h152 : I 152 k = nI r) (hr : r < 25) (hG : rG q G (o + r) (max m r) I) (hH : rSt I (8 + 8 * k) (some H)) (hs : rSt I 4 s) (he : e < q 117 35) (hb : bS q a) (hkd : q 138 a = 6 ∨ q 138 a = 7) (hE : eE q a e) : ∃ I', fY k I I' ∧ rB q P D W I' ∧ I' 117 55 = nI (if yMore H s = true then k + 1 else k) ∧ I' 152 k = nI (r + 1) ∧ rG q G (o + (r + 1)) (max m (r + 1)) I' ∧ rSt I' (8 + 8 * k) (some (yNxt D W r H s)) ∧ rSt I' 4 (yTs (if yMore H s = true then 1 else 2) q P a (yNxt D W r H s)) ∧ jval (d + 13) 229 77 [.ref 117, .int (nI e)] [] (jGs L g, I, J) = jval (d + 13) 229 77 [.ref 117, .int (nI (if yMore H s = true then a + 1 else e + 1))] [] (jGs L g, I', J) := by
  have b35 := hB.2.2.2.2.2.2.2.2.2.1
  obtain ⟨m1, m2, m3, m4, m5, m6⟩ := hE
  have ca : (nI e).toNatClampNeg = e := nI_c (by omega)
  have ja : jin (nI e) 130 = true := jin_nI (by omega) (by omega)
  obtain ⟨q1, q2, q3, q4, q5⟩ := hB.1.2.1 e he
  have B0 : rB q P D W (ju I 117 55 (nI k)) := rB_55 hB
  have hh : ∃ I1, fY k (ju I 117 55 (nI k)) I1 ∧ (∀ y, y < 10240 → I1 125 y = 0) ∧ I1 117 55 = nI k ∧ I1 152 k = nI (r + 1) ∧ rG q G (o + (r + 1)) (max m (r + 1)) I1 ∧ rSt I1 (8 + 8 * k) (some (yNxt D W r H s)) ∧ jcall (d + 10) 222 [.ref 117, .int (nI (8 + 8 * k))] (jGs L g, ju I 117 55 (nI k), J) = some (some (.int (bI (yMore H s))), (jGs L g, I1, J)) := by
    obtain ⟨I1, y1, y2, y3, y4, y5, y6⟩ := r_isOther d L g (J := J) B0 hk (zu_at _ _ _ _) (by rw [zu_a (by omega)]; exact h152) hr (rG_55 hG) (rSt_55 hH) (rSt_55 hs)
    cases s with
    | none => exact ⟨I1, y1, y2, y3, y4, y5, y6.1, y6.2⟩
    | some V => exact ⟨I1, y1, y2, y3, y4, y5, y6.1, y6.2⟩
  obtain ⟨I1, y1, y2, y3, y4, y5, y6, y7⟩ := hh
  obtain ⟨I2, b1, b2, b3, b4, b5⟩ := r_copiesAll (d + 8) L g (J := J) (I := I1) (a := 8 + 8 * k) (b := 4) (by omega) (by omega) (by omega)
  have F2 := fY_cp (k := k) b1 b2 b3 (Or.inl rfl)
  have F12 := fY_t (fY_55 k I (nI k)) (fY_t y1 F2)
  have B2 := rB_f B0 (fY_t y1 F2) (fun y hy => by rw [b1 _ _ (by omega) (by omega)]; exact y2 y hy)
  have S4 := b4 _ y6
  have SH : rSt I2 (8 + 8 * k) (some (yNxt D W r H s)) := rSt_cg y6 (b3 _ (by omega)) (fun v hv c hc => b2 _ (by omega))
  have i55 : I2 117 55 = nI k := by rw [b1 _ _ (by omega) (by omega)]; exact y3
  have i152 : I2 152 k = nI (r + 1) := by rw [b1 _ _ (by omega) (by omega)]; exact y4
  have G2 := rG_e y5 (eG_cp b1)
  have start : jval (d + 13) 229 77 [.ref 117, .int (nI e)] [] (jGs L g, I, J) = jcI (jcI (jcI (jval (d + 10) 224 27 [.ref 117, .int (nI e), jjunk, .int (bI (yMore H s))] [] (jGs L g, I2, J)) (fun r S1 => jval (d + 11) 228 17 [jjunk, jjunk, jjunk] [.int r] S1)) (fun r S1 => jval (d + 12) 227 160 [jjunk, jjunk] [.int r] S1)) (fun r S => jval (d + 13) 229 90 [.ref 117, jjunk] [.int r] S) := by
    rw [r_an_at d L g hB.1 he b35, r_go_at d L g hB.1 he b35 rfl (by omega) (by omega), m3]
    show jcI (jval (d + 12) 227 149 _ _ _) _ = _
    rw [e_TextValuesModel_goes_149, ja, ca, cond_true, q4, m6, c_TextValuesModel_endsBlock, e_TextValuesModel_endsBlock_0]
    have to12 : ∀ {α : Type} (y x : α), jif (nI (q 138 a) = (6 : Int32)) y (jif (nI (q 138 a) = (7 : Int32)) y x) = y := by
      intro α y x
      rcases hkd with z | z
      · rw [jif_t (by rw [z]; rfl)]
      · rw [z, jif_f (by decide), jif_t (by decide)]
    rw [to12, e_TextValuesModel_endsBlock_12, c_TextValuesModel_loopsOn, e_TextValuesModel_loopsOn_0, h55, show (1 : Int32) = nI 1 from rfl, zi_sub (by omega), show k + 1 - 1 = k by omega, c_TextValuesModel_head, e_TextValuesModel_head_0, zu_at, show (8 : Int32) = nI 8 from rfl, nI_mul, nI_add, jcI_some, e_TextValuesModel_loopsOn_14, y7, jcI_some, e_TextValuesModel_loopsOn_20, show (4 : Int32) = nI 4 from rfl, b5, jcV_some]
  obtain ⟨w1, w2, w3, w4, w5⟩ := B2.1.2.1 e he
  have ask : ∃ I3, fY 5 I2 I3 ∧ rB q P D W I3 ∧ eG I2 I3 ∧ rSt I3 4 (yTs (if yMore H s = true then 1 else 2) q P a (yNxt D W r H s)) ∧ jval (d + 10) 224 27 [.ref 117, .int (nI e), jjunk, .int (bI (yMore H s))] [] (jGs L g, I2, J) = jval (d + 10) 224 63 [.ref 117, .int (nI e), jjunk, .int (bI (yMore H s))] [] (jGs L g, I3, J) := by
    rw [e_TextValuesModel_loopsOn_27, ja, ca, cond_true, w4, m6]
    by_cases h6 : q 138 a = 6
    · rw [jif_t (by rw [h6]; rfl)]
      obtain ⟨I3, c1, c2, c3, c4, c5⟩ := r_askO d L g (J := J) (m := if yMore H s = true then 1 else 2) B2 S4 (by split <;> omega) hb (Or.inr h6)
      refine ⟨I3, c1, c2, c3, c4, ?_⟩
      cases hm : yMore H s with
      | true =>
        rw [hm] at c5
        rw [jif_f (by decide), e_TextValuesModel_loopsOn_48, ja, ca, cond_true, cond_true, w2, w3, m4, m5, show (1 : Int32) = nI 1 from rfl]
        rw [if_pos rfl] at c5
        rw [c5, jcV_some]
      | false =>
        rw [hm] at c5
        rw [jif_t (by decide), e_TextValuesModel_loopsOn_48, ja, ca, cond_true, cond_true, w2, w3, m4, m5, show (2 : Int32) = nI 2 from rfl]
        rw [if_neg (by decide)] at c5
        rw [c5, jcV_some]
    · rw [jif_f (show ¬ nI (q 138 a) = (6 : Int32) from fun z => h6 ((nI_eq (b := 6) (by omega) (by omega)).mp z))]
      refine ⟨I2, fY_r 5 I2, B2, eG_r I2, ?_, rfl⟩
      have := yTo_5 (m := if yMore H s = true then 1 else 2) (P := P) (s := some (yNxt D W r H s)) (q := q) (a := a) (by omega)
      rw [show yTs (if yMore H s = true then 1 else 2) q P a (yNxt D W r H s) = some (yNxt D W r H s) from this]
      exact S4
  obtain ⟨I3, c1, c2, c3, c4, c5⟩ := ask
  have F3 := fY_t (fY_t F12 (fY_w c1 (show k ≤ 5 by omega))) (fY_55 k I3 (nI (if yMore H s = true then k + 1 else k)))
  refine ⟨ju I3 117 55 (nI (if yMore H s = true then k + 1 else k)), F3, rB_55 c2, zu_at _ _ _ _, ?_, rG_55 (rG_e G2 c3), rSt_55 (rSt_cg SH (c1.2.2.1 _ (by omega) (by omega)) (fun v hv c hc => c1.2.1 _ (by omega))), rSt_55 c4, ?_⟩
  · rw [zu_a (by omega), c1.2.2.2 _ hk]; exact i152
  have j55 : I3 117 55 = nI k := (c3.1 55 (by omega)).trans i55
  have j142 : I3 142 e = nI a := (c2.1.2.1 e he).2.2.2.2 a m2
  rw [start, c5, e_TextValuesModel_loopsOn_63, j55]
  cases hm : yMore H s with
  | true => rw [jif_f (by decide), e_TextValuesModel_loopsOn_77, jif_f (by decide), ja, ca, cond_true, j142, nI_1, nI_1, e_TextValuesModel_loopsOn_99, jcI_some, e_TextValuesModel_endsBlock_17, jcI_some, e_TextValuesModel_goes_160, jcI_some, e_TextValuesModel_foretells_90, if_pos rfl, if_pos rfl]
  | false => rw [jif_t (by decide), e_TextValuesModel_loopsOn_77, jif_t (by decide), nI_1, show (0 : Int32) = nI 0 from rfl, nI_add, e_TextValuesModel_loopsOn_99, jcI_some, e_TextValuesModel_endsBlock_17, jcI_some, e_TextValuesModel_goes_160, jcI_some, e_TextValuesModel_foretells_90, if_neg (by decide), if_neg (by decide)]; rfl
/-- the whole loop -/
theorem rG_rn {q : Nat → Nat → Nat} {G : yG} {o m n : Nat} {I : Nat → Nat → Int32} (h : rG q G (o + n) (max m n) I) : rG q (yRn n G) o m I := by
  obtain ⟨h1, h2, h3, h4, h5⟩ := h
  unfold yRn rG
  refine ⟨?_, ?_, ?_, by omega, h5⟩
  · rw [h1, show G.1 + (o + n) = G.1 + n + o by omega]
  · show _ = nI (max (max G.2.1 n) m)
    rw [h2, show max G.2.1 (max m n) = max (max G.2.1 n) m by omega]
  · show max G.2.1 n ≤ 25
    omega
theorem r_loop {q : Nat → Nat → Nat} {P : Nat → kA} {D W a e k o m : Nat} {B : Option yV → yG → Option yV × yG} (hk : k < 5) (he : e < q 117 35) (hb : bS q a) (hkd : q 138 a = 6 ∨ q 138 a = 7) (hE : eE q a e)
    (hbody : ∀ s G o m I, rB q P D W I → rSt I 4 s → rG q G o m I → I 117 55 = nI (k + 1) → ∃ I', fY (k + 1) I I' ∧ rB q P D W I' ∧ rSt I' 4 (B s G).1 ∧ rG q (B s G).2 o m I' ∧ I' 117 55 = nI (k + 1) ∧ jval (d + 13) 229 77 [.ref 117, .int (nI (a + 1))] [] (jGs L g, I, J) = jval (d + 13) 229 77 [.ref 117, .int (nI e)] [] (jGs L g, I', J)) :
    ∀ n r H G I, n + r = 25 → (20 ≤ r → yN H 4 + r ≤ 24) → rB q P D W I → rSt I (8 + 8 * k) (some H) → I 152 k = nI r → rSt I 4 (yTs 1 q P a H) → rG q G (o + r) (max m r) I → I 117 55 = nI (k + 1) → ∃ I', fY k I I' ∧ rB q P D W I' ∧ rSt I' 4 (yTs 2 q P a (yLoop B (yTs 1 q P a) D W n r H G).1) ∧ rG q (yRn (yLoop B (yTs 1 q P a) D W n r H G).2.2 (yLoop B (yTs 1 q P a) D W n r H G).2.1) o m I' ∧ I' 117 55 = nI k ∧ jval (d + 13) 229 77 [.ref 117, .int (nI (a + 1))] [] (jGs L g, I, J) = jval (d + 13) 229 77 [.ref 117, .int (nI (e + 1))] [] (jGs L g, I', J) := by
  intro n
  induction n with
  | zero =>
    intro r H G I hn hy
    have := hy (by omega)
    omega
  | succ n ih =>
    intro r H G I hn hy hB hH h152 hs hG h55
    obtain ⟨I1, f1, B1, s1, g1, d1, v1⟩ := hbody _ _ _ _ I hB hs hG h55
    obtain ⟨I2, f2, B2, d2, r2, g2, H2, s2, v2⟩ := r_lpE d L g (J := J) B1 hk d1 ((f1.2.2.2 k (by omega)).trans h152) (by omega) g1 (rSt_cg hH (f1.2.2.1 _ (by omega) (by omega)) (fun v hv c hc => f1.2.1 _ (by omega))) s1 he hb hkd hE
    have F := fY_t (fY_w f1 (show k ≤ k + 1 by omega)) f2
    have un : yLoop B (yTs 1 q P a) D W (n + 1) r H G = if yMore H (B (yTs 1 q P a H) G).1 = true then yLoop B (yTs 1 q P a) D W n (r + 1) (yNxt D W r H (B (yTs 1 q P a H) G).1) (B (yTs 1 q P a H) G).2 else (H, (B (yTs 1 q P a H) G).2, r + 1) := by
      show (match B (yTs 1 q P a H) G with
        | (none, G1) => (H, G1, r + 1)
        | (some V, G1) => if yOt H V 4 = true then yLoop B (yTs 1 q P a) D W n (r + 1) (fun v => if v < 4 then yG1 D W r H V v else H v) G1 else (H, G1, r + 1)) = _
      rcases B (yTs 1 q P a H) G with ⟨s', G'⟩
      cases s' with
      | none => rfl
      | some V => rfl
    rw [un, v1]
    by_cases hm : yMore H (B (yTs 1 q P a H) G).1 = true
    · rw [if_pos hm] at d2 s2 v2 ⊢
      obtain ⟨I3, f3, t⟩ := ih (r + 1) _ _ I2 (by omega) (fun h20 => by
        cases hs' : (B (yTs 1 q P a H) G).1 with
        | none => rw [hs'] at hm; cases hm
        | some V =>
          rw [hs'] at hm
          by_cases h : 20 ≤ r
          · have h1 := (yN_dn D W r H V (yNxt D W r H (some V)) h 4 (fun v hv => if_pos hv)).2 hm
            have := hy h
            omega
          · have := yN_le (yNxt D W r H (some V)) 4
            omega) B2 H2 r2 s2 g2 d2
      exact ⟨I3, fY_t F f3, t.1, t.2.1, t.2.2.1, t.2.2.2.1, v2.trans t.2.2.2.2⟩
    · rw [if_neg hm] at d2 s2 v2 ⊢
      rw [yNxt_no (Bool.eq_false_iff.mpr hm)] at s2
      exact ⟨I2, F, B2, s2, rG_rn g2, d2, v2⟩
end MM

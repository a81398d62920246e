/-! ANALYSIS, THE REFERENCE: one step -/
set_option maxRecDepth 100000
noncomputable def yTo (m : Nat) (q : Nat → Nat → Nat) (P : Nat → kA) (a : Nat) : Option yV → Option yV
  | none => none
  | some V => yTs m q P a V
section MM
variable (d L : Nat) (g : jG) {J : Nat → Nat → Int64}
theorem r_an_at {q : Nat → Nat → Nat} {a : Nat} {I : Nat → Nat → Int32} (hQ : rQ q I) (ha : a < q 117 35) (h35 : q 117 35 ≤ 120) : jval (d + 13) 229 77 [.ref 117, .int (nI a)] [] (jGs L g, I, J) = jcI (jval (d + 12) 227 0 [.ref 117, .int (nI a)] [] (jGs L g, I, J)) (fun r S => jval (d + 13) 229 90 [.ref 117, jjunk] [.int r] S) := by
  rw [e_TextValuesModel_foretells_77, hQ.1.1, jif_f (nI_ge (by omega) (by omega)), c_TextValuesModel_goes]
theorem r_go_at {q : Nat → Nat → Nat} {a s : Nat} {I : Nat → Nat → Int32} (hQ : rQ q I) (ha : a < q 117 35) (h35 : q 117 35 ≤ 120) (hs : q 138 a = s) (h1 : 1 ≤ s) (h9 : s ≤ 9) : jval (d + 12) 227 0 [.ref 117, .int (nI a)] [] (jGs L g, I, J) = jval (d + 12) 227 (if s = 1 then 52 else if s = 2 then 70 else if s = 3 then 107 else if s = 4 then 125 else if s = 5 then 125 else if s = 6 then 143 else if s = 7 then 143 else if s = 8 then 134 else 149) [.ref 117, .int (nI a)] [] (jGs L g, I, J) := by
  have hk := (hQ.2.1 a ha).1
  rw [hs] at hk
  rw [e_TextValuesModel_goes_0, jin_nI (by omega) (by omega), cond_true, nI_c (by omega), hk]
  have hc : s = 1 ∨ s = 2 ∨ s = 3 ∨ s = 4 ∨ s = 5 ∨ s = 6 ∨ s = 7 ∨ s = 8 ∨ s = 9 := by omega
  rcases hc with e | e | e | e | e | e | e | e | e <;> subst e
  · rw [jif_t (by decide)]; rfl
  · rw [jif_f (by decide), jif_t (by decide)]; rfl
  · rw [jif_f (by decide), jif_f (by decide), jif_t (by decide)]; rfl
  · rw [jif_f (by decide), jif_f (by decide), jif_f (by decide), jif_t (by decide)]; rfl
  · rw [jif_f (by decide), jif_f (by decide), jif_f (by decide), jif_f (by decide), jif_t (by decide)]; rfl
  · rw [jif_f (by decide), jif_f (by decide), jif_f (by decide), jif_f (by decide), jif_f (by decide), jif_t (by decide)]; rfl
  · rw [jif_f (by decide), jif_f (by decide), jif_f (by decide), jif_f (by decide), jif_f (by decide), jif_f (by decide), jif_t (by decide)]; rfl
  · rw [jif_f (by decide), jif_f (by decide), jif_f (by decide), jif_f (by decide), jif_f (by decide), jif_f (by decide), jif_f (by decide), jif_t (by decide)]; rfl
  · rw [jif_f (by decide), jif_f (by decide), jif_f (by decide), jif_f (by decide), jif_f (by decide), jif_f (by decide), jif_f (by decide), jif_f (by decide)]; rfl
theorem i151 {I : Nat → Nat → Int32} {V : yV} (h : rSt I 4 (some V)) : I 151 4 = (0 : Int32) := by
  rcases h with ⟨e1, _⟩ | ⟨V', e1, e2, _⟩
  · cases e1
  · exact e2
theorem i151n {I : Nat → Nat → Int32} {h : Nat} (hs : rSt I h none) : I 151 h = (1 : Int32) := by
  rcases hs with ⟨_, e2⟩ | ⟨V', e1, _, _⟩
  · exact e2
  · cases e1
/-- a simple statement that is not reached -/
theorem r_st_off {q : Nat → Nat → Nat} {P : Nat → kA} {D W a : Nat} {I : Nat → Nat → Int32} (hB : rB q P D W I) (hs : rSt I 4 none) (ha : a < q 117 35) (h1 : 1 ≤ q 138 a) (h3 : q 138 a ≤ 3) : jval (d + 13) 229 77 [.ref 117, .int (nI a)] [] (jGs L g, I, J) = jval (d + 13) 229 77 [.ref 117, .int (nI (a + 1))] [] (jGs L g, I, J) := by
  have b35 := hB.2.2.2.2.2.2.2.2.2.1
  have hi := i151n hs
  have ne : ¬ I 151 (4 : Int32).toNatClampNeg = (0 : Int32) := by rw [show (4 : Int32).toNatClampNeg = 4 from rfl, hi]; decide
  rw [r_an_at d L g hB.1 ha b35, r_go_at d L g hB.1 ha b35 rfl h1 (by omega)]
  have j4 : jin (4 : Int32) 56 = true := jin_nI (n := 4) (by omega) (by omega)
  have hc : q 138 a = 1 ∨ q 138 a = 2 ∨ q 138 a = 3 := by omega
  rcases hc with e | e | e <;> rw [e]
  · show jcI (jval (d + 12) 227 52 _ _ _) _ = _
    rw [e_TextValuesModel_goes_52, j4, cond_true, jif_f ne, e_TextValuesModel_goes_66, jcI_some, e_TextValuesModel_foretells_90, nI_1]
  · show jcI (jval (d + 12) 227 70 _ _ _) _ = _
    rw [e_TextValuesModel_goes_70, j4, cond_true, jif_f ne, e_TextValuesModel_goes_103, jcI_some, e_TextValuesModel_foretells_90, nI_1]
  · show jcI (jval (d + 12) 227 107 _ _ _) _ = _
    rw [e_TextValuesModel_goes_107, j4, cond_true, jif_f ne, e_TextValuesModel_goes_121, jcI_some, e_TextValuesModel_foretells_90, nI_1]
/-- a simple statement -/
theorem r_st_on {q : Nat → Nat → Nat} {P : Nat → kA} {D W a o m : Nat} {V : yV} {G : yG} {I : Nat → Nat → Int32} (hB : rB q P D W I) (hs : rSt I 4 (some V)) (hG : rG q G o m I) (ha : a < q 117 35) (hb : bS q a) (h1 : 1 ≤ q 138 a) (h3 : q 138 a ≤ 3) : ∃ I', fY 5 I I' ∧ rB q P D W I' ∧ I' 117 55 = I 117 55 ∧ rSt I' 4 (some (if q 138 a = 1 then jup V (q 141 a) (ySet q P V a) else if q 138 a = 2 then jup V (q 139 a) (vEx (V (q 139 a)) (q 140 a) (q 141 a)) else V)) ∧ rG q (if q 138 a = 3 then yRing q P V a G else G) o m I' ∧ jval (d + 13) 229 77 [.ref 117, .int (nI a)] [] (jGs L g, I, J) = jval (d + 13) 229 77 [.ref 117, .int (nI (a + 1))] [] (jGs L g, I', J) := by
  have b35 := hB.2.2.2.2.2.2.2.2.2.1
  have hi : I 151 (4 : Int32).toNatClampNeg = (0 : Int32) := i151 hs
  have j4 : jin (4 : Int32) 56 = true := jin_nI (n := 4) (by omega) (by omega)
  have ca : (nI a).toNatClampNeg = a := nI_c (by omega)
  have ja : jin (nI a) 130 = true := jin_nI (by omega) (by omega)
  rw [r_an_at d L g hB.1 ha b35, r_go_at d L g hB.1 ha b35 rfl h1 (by omega)]
  have hc : q 138 a = 1 ∨ q 138 a = 2 ∨ q 138 a = 3 := by omega
  rcases hc with e | e | e
  · obtain ⟨I', a1, a2, a3, a4, a5⟩ := r_setsAt (d + 1) L g (J := J) hB hs ha hb e
    rw [if_pos e, if_neg (by omega)]
    refine ⟨I', a1, rB_f hB a1 a2, a3.1 55 (by omega), a4, rG_e hG a3, ?_⟩
    rw [e]
    show jcI (jval (d + 12) 227 52 _ _ _) _ = _
    rw [e_TextValuesModel_goes_52, j4, cond_true, jif_t hi, a5, jcV_some, e_TextValuesModel_goes_66, jcI_some, e_TextValuesModel_foretells_90, nI_1]
  · obtain ⟨v4, p3, r3⟩ := hb.2.1 e
    obtain ⟨q1, q2, q3, q4, -⟩ := hB.1.2.1 a ha
    have hv : mR I (4 + q 139 a) (V (q 139 a)) := by
      rcases hs with ⟨e1, _⟩ | ⟨V', e1, _, e3⟩
      · cases e1
      · cases e1; exact (e3 _ v4).1
    obtain ⟨I', a1, a2, a3⟩ := r_exchanges (d + 3) L g (J := J) (a := 4 + q 139 a) (p := q 140 a) (q := q 141 a) hv (by omega) p3 (by omega) hB.2.2.1
    have F := fY_op a1 (Or.inl ⟨by omega, by omega⟩)
    rw [if_neg (by omega), if_pos e, if_neg (by omega)]
    refine ⟨I', F, rB_f hB F a1.2.2, (eG_op a1).1 55 (by omega), rSt_op hs a1 v4 a2 (vEx_V _ _ _), rG_e hG (eG_op a1), ?_⟩
    rw [e]
    show jcI (jval (d + 12) 227 70 _ _ _) _ = _
    rw [e_TextValuesModel_goes_70, j4, cond_true, jif_t hi, ja, ca, cond_true, cond_true, cond_true, q2, q3, q4, show (4 : Int32) = nI 4 from rfl, nI_add, a3, jcV_some, e_TextValuesModel_goes_103, jcI_some, e_TextValuesModel_foretells_90, nI_1]
  · obtain ⟨I', a1, a2, a3, a4, a5, a6⟩ := r_rings (d + 3) L g (J := J) hB hs hG ha hb e
    rw [if_neg (by omega), if_neg (by omega), if_pos e]
    refine ⟨I', a1, rB_f hB a1 a2, a3, a4, a5, ?_⟩
    rw [e]
    show jcI (jval (d + 12) 227 107 _ _ _) _ = _
    rw [e_TextValuesModel_goes_107, j4, cond_true, jif_t hi, a6, jcV_some, e_TextValuesModel_goes_121, jcI_some, e_TextValuesModel_foretells_90, nI_1]
/-- a test, whether it is reached or not -/
theorem r_askO {q : Nat → Nat → Nat} {P : Nat → kA} {D W m a : Nat} {s : Option yV} {I : Nat → Nat → Int32} (hB : rB q P D W I) (hs : rSt I 4 s) (hm : m = 1 ∨ m = 2) (hb : bS q a) (hk : q 138 a = 4 ∨ q 138 a = 6) : ∃ I', fY 5 I I' ∧ rB q P D W I' ∧ eG I I' ∧ rSt I' 4 (yTo m q P a s) ∧ jcall (d + 10) 215 [.ref 117, .int (nI m), .int (nI (q 139 a)), .int (nI (q 140 a))] (jGs L g, I, J) = some (none, (jGs L g, I', J)) := by
  obtain ⟨v4, i4⟩ := hb.2.2.2 hk
  cases s with
  | none =>
    refine ⟨I, fY_r 5 I, hB, eG_r I, hs, ?_⟩
    have ne : ¬ I 151 (4 : Int32).toNatClampNeg = (0 : Int32) := by rw [show (4 : Int32).toNatClampNeg = 4 from rfl, i151n hs]; decide
    rw [c_TextValuesModel_asks, e_TextValuesModel_asks_0, show jin (4 : Int32) 56 = true from jin_nI (n := 4) (by omega) (by omega), cond_true, jif_f ne, e_TextValuesModel_asks_42]
  | some V =>
    obtain ⟨I', a1, a2, a3, a4, a5⟩ := r_asks d L g (J := J) (m := m) (v := q 139 a) (i := q 140 a) hm v4 i4 hs (hB.2.1 _ i4).1 hB.2.2.1
    refine ⟨I', a1, rB_f hB a1 a2, ⟨fun j hj => ?_, fun j => (a3 j).2.2.2.1, fun j => (a3 j).2.2.2.2⟩, ?_, a5⟩
    · rcases hj with e | e | e <;> rw [e]
      · exact (a3 0).1
      · exact (a3 0).2.1
      · exact (a3 0).2.2.1
    · show rSt I' 4 (yTs m q P a V)
      unfold yTs
      rw [if_pos hk]
      exact a4
theorem fY_cp {k b : Nat} {I I' : Nat → Nat → Int32} (h1 : ∀ x j, x ≠ 119 → x ≠ 151 → I' x j = I x j) (h2 : ∀ j, ¬ (32 * b ≤ j ∧ j < 32 * b + 128) → I' 119 j = I 119 j) (h3 : ∀ j, j ≠ b → I' 151 j = I 151 j) (hb : b = 4 ∨ 8 + 8 * k ≤ b) : fY k I I' := ⟨fun a j hx => h1 a j (by unfold yX at hx; omega) (by unfold yX at hx; omega), fun j hj => h2 j (by omega), fun j y1 y2 => h3 j (by omega), fun j _ => h1 _ _ (by omega) (by omega)⟩
theorem eG_cp {I I' : Nat → Nat → Int32} (h1 : ∀ x j, x ≠ 119 → x ≠ 151 → I' x j = I x j) : eG I I' := ⟨fun j _ => h1 _ _ (by omega) (by omega), fun j => h1 _ _ (by omega) (by omega), fun j => h1 _ _ (by omega) (by omega)⟩
/-- a branch begins -/
theorem r_brA {q : Nat → Nat → Nat} {P : Nat → kA} {D W a k o m : Nat} {s : Option yV} {G : yG} {I : Nat → Nat → Int32} (hB : rB q P D W I) (hs : rSt I 4 s) (hG : rG q G o m I) (hk : k < 5) (h55 : I 117 55 = nI k) (ha : a < q 117 35) (hb : bS q a) (hkd : q 138 a = 4 ∨ q 138 a = 5) : ∃ I', fY k I I' ∧ rB q P D W I' ∧ I' 117 55 = nI (k + 1) ∧ rSt I' (8 + 8 * k) s ∧ rSt I' 4 (yTo 1 q P a s) ∧ rG q G o m I' ∧ jval (d + 13) 229 77 [.ref 117, .int (nI a)] [] (jGs L g, I, J) = jval (d + 13) 229 77 [.ref 117, .int (nI (a + 1))] [] (jGs L g, I', J) := by
  have b35 := hB.2.2.2.2.2.2.2.2.2.1
  have ca : (nI a).toNatClampNeg = a := nI_c (by omega)
  have ja : jin (nI a) 130 = true := jin_nI (by omega) (by omega)
  obtain ⟨I1, a1, a2, a3, a4, a5⟩ := r_copiesAll (d + 9) L g (J := J) (I := I) (a := 4) (b := 8 + 8 * k) (by omega) (by omega) (by omega)
  have F1 := fY_cp (k := k) a1 a2 a3 (Or.inr (by omega))
  have z1 : ∀ y, y < 10240 → I1 125 y = 0 := fun y hy => by rw [a1 _ _ (by omega) (by omega)]; exact hB.2.2.1 y hy
  have i55 : I1 117 55 = nI k := (a1 _ _ (by omega) (by omega)).trans h55
  have F2 : fY k I1 (ju I1 117 55 (nI (k + 1))) := ⟨fun x j hx => ju_ne (by unfold yX at hx; omega), fun j _ => zu_a (by omega), fun j _ _ => zu_a (by omega), fun j _ => zu_a (by omega)⟩
  have F12 := fY_t F1 F2
  have B2 := rB_f hB F12 (fun y hy => by rw [zu_a (by omega)]; exact z1 y hy)
  have S4 : rSt (ju I1 117 55 (nI (k + 1))) 4 s := rSt_cg hs (by rw [zu_a (by omega)]; exact a3 4 (by omega)) (fun v hv c hc => by rw [zu_a (by omega)]; exact a2 _ (by omega))
  have SH : rSt (ju I1 117 55 (nI (k + 1))) (8 + 8 * k) s := rSt_cg (a4 s hs) (zu_a (by omega)) (fun v hv c hc => zu_a (by omega))
  have G2 : rG q G o m (ju I1 117 55 (nI (k + 1))) := by
    have hg := rG_e hG (eG_cp a1)
    exact ⟨by rw [zu_k (by omega)]; exact hg.1, by rw [zu_k (by omega)]; exact hg.2.1, hg.2.2.1, hg.2.2.2.1, fun j hj => rRa_cg (hg.2.2.2.2 j hj) (zu_a (by omega)) (fun x _ => zu_a (by omega))⟩
  obtain ⟨q1, q2, q3, q4, -⟩ := B2.1.2.1 a ha
  have r1 : ∀ x, x = 138 ∨ x = 139 ∨ x = 140 → ju I1 117 55 (nI (k + 1)) x a = I1 x a := fun x hx => zu_a (by omega)
  have start : jval (d + 13) 229 77 [.ref 117, .int (nI a)] [] (jGs L g, I, J) = jcI (jcV (jval (d + 11) 225 9 [.ref 117, .int (nI a)] [] (jGs L g, I1, J)) (fun S1 => jval (d + 12) 227 130 [jjunk, .int (nI a)] [] S1)) (fun r S => jval (d + 13) 229 90 [.ref 117, jjunk] [.int r] S) := by
    rw [r_an_at d L g hB.1 ha b35, r_go_at d L g hB.1 ha b35 rfl (by omega) (by omega)]
    have e125 : (if q 138 a = 1 then 52 else if q 138 a = 2 then 70 else if q 138 a = 3 then 107 else if q 138 a = 4 then 125 else if q 138 a = 5 then 125 else if q 138 a = 6 then 143 else if q 138 a = 7 then 143 else if q 138 a = 8 then 134 else 149) = 125 := by rcases hkd with e | e <;> rw [e] <;> rfl
    rw [e125, e_TextValuesModel_goes_125, c_TextValuesModel_branches, e_TextValuesModel_branches_0, c_TextValuesModel_head, e_TextValuesModel_head_0, h55, show (8 : Int32) = nI 8 from rfl, nI_mul, nI_add, jcI_some, e_TextValuesModel_branches_6, show (4 : Int32) = nI 4 from rfl, a5, jcV_some]
  rw [start, e_TextValuesModel_branches_9, ja, ca, cond_true, i55, nI_1, ← r1 138 (by omega), ← r1 139 (by omega), ← r1 140 (by omega), q1, q2, q3]
  by_cases h4 : q 138 a = 4
  · obtain ⟨I', c1, c2, c3, c4, c5⟩ := r_askO (d + 1) L g (J := J) (m := 1) B2 S4 (Or.inl rfl) hb (Or.inl h4)
    refine ⟨I', fY_t F12 (fY_w c1 (by omega)), c2, (c3.1 55 (by omega)).trans (zu_at _ _ _ _), rSt_cg SH (c1.2.2.1 _ (by omega) (by omega)) (fun v hv c hc => c1.2.1 _ (by omega)), c4, rG_e G2 c3, ?_⟩
    rw [jif_t (by rw [h4]; rfl), cond_true, cond_true, show (1 : Int32) = nI 1 from rfl, c5, jcV_some, e_TextValuesModel_branches_46, jcV_some, e_TextValuesModel_goes_130, jcI_some, e_TextValuesModel_foretells_90, nI_1]
  · refine ⟨_, F12, B2, zu_at _ _ _ _, SH, ?_, G2, ?_⟩
    · cases s with
      | none => exact S4
      | some V =>
        show rSt _ 4 (yTs 1 q P a V)
        unfold yTs
        rw [if_neg (by omega)]
        exact S4
    · rw [jif_f (show ¬ nI (q 138 a) = (4 : Int32) from fun e => h4 ((nI_eq (b := 4) (by omega) (by omega)).mp e)), e_TextValuesModel_branches_46, jcV_some, e_TextValuesModel_goes_130, jcI_some, e_TextValuesModel_foretells_90, nI_1]
end MM

/-! ANALYSIS, THE REFERENCE: an alarm rings -/
set_option maxRecDepth 100000
def rRa (I : Nat → Nat → Int32) (j : Nat) (o : Option (List Nat)) : Prop := (o = none ∧ I 153 j = -1) ∨ ∃ w, o = some w ∧ w.length < 100 ∧ kW w ∧ I 153 j = nI w.length ∧ ∀ x, x < w.length → I 154 (100 * j + x) = nI (w.getD x 0)
/-- the counters; o, m: what the loops around have done -/
def rG (q : Nat → Nat → Nat) (G : yG) (o m : Nat) (I : Nat → Nat → Int32) : Prop := I 117 63 = nI (G.1 + o) ∧ I 117 64 = nI (max G.2.1 m) ∧ G.2.1 ≤ 25 ∧ m ≤ 25 ∧ ∀ j, j < q 117 42 → rRa I j (G.2.2 j)
theorem rRa_cg {I I' : Nat → Nat → Int32} {j : Nat} {o : Option (List Nat)} (h : rRa I j o) (h1 : I' 153 j = I 153 j) (h2 : ∀ x, x < 100 → I' 154 (100 * j + x) = I 154 (100 * j + x)) : rRa I' j o := by
  rcases h with ⟨e1, e2⟩ | ⟨w, e1, e2, e3, e4, e5⟩
  · exact Or.inl ⟨e1, h1.trans e2⟩
  · exact Or.inr ⟨w, e1, e2, e3, h1.trans e4, fun x hx => (h2 x (by omega)).trans (e5 x hx)⟩
theorem rG_e {q : Nat → Nat → Nat} {G : yG} {o m : Nat} {I I' : Nat → Nat → Int32} (h : rG q G o m I) (he : eG I I') : rG q G o m I' := ⟨(he.1 _ (by omega)).trans h.1, (he.1 _ (by omega)).trans h.2.1, h.2.2.1, h.2.2.2.1, fun j hj => rRa_cg (h.2.2.2.2 j hj) (he.2.1 j) (fun x _ => he.2.2 _)⟩
theorem drop_c {w : List Nat} {i : Nat} (h : i < w.length) : w.drop i = w.getD i 0 :: w.drop (i + 1) := by
  rw [List.drop_eq_getElem_cons h, List.getD_eq_getElem?_getD, List.getElem?_eq_getElem h]
  rfl
theorem kW_get {w : List Nat} (h : kW w) {i : Nat} (hi : i < w.length) : w.getD i 0 < 3 := by
  rw [List.getD_eq_getElem?_getD, List.getElem?_eq_getElem hi]
  exact h _ (List.getElem_mem hi)
def yNw (w : List Nat) : Option (List Nat) → Bool
  | none => true
  | some u => yLs w u
section MM
variable (d L : Nat) (g : jG) {J : Nat → Nat → Int64}
theorem r_isLess {j : Nat} {w : List Nat} {o : Option (List Nat)} {I : Nat → Nat → Int32} (hj : j < 40) (hw : w.length < 100) (kw : kW w) (hp : ∀ x, x < w.length → I 155 x = nI (w.getD x 0)) (h : rRa I j o) : jcall (d + 1) 220 [.ref 117, .int (nI j), .int (nI w.length)] (jGs L g, I, J) = some (some (.int (bI (yNw w o))), (jGs L g, I, J)) := by
  have jj : jin (nI j) 40 = true := jin_nI (by omega) (by omega)
  have cj : (nI j).toNatClampNeg = j := nI_c (by omega)
  rw [c_TextValuesModel_isLess, e_TextValuesModel_isLess_0, jj, cj, cond_true]
  rcases h with ⟨e1, e2⟩ | ⟨u, e1, e2, e3, e4, e5⟩
  · subst e1
    rw [e2, jif_t rfl, e_TextValuesModel_isLess_20, jj, cj, cond_true, e2, jif_t rfl, e_TextValuesModel_isLess_40, e_TextValuesModel_isLess_45, jif_t (Or.inr rfl)]
    rfl
  · subst e1
    have ne : ¬ nI u.length = (-1 : Int32) := by rw [show (-1 : Int32) = -nI 1 from rfl, zi_m1e (by omega)]; exact id
    rw [e4, jif_f ne, cond_true]
    show _ = some (some (Value.int (bI (yLs w u))), (jGs L g, I, J))
    unfold yLs
    by_cases hl : w.length = u.length
    · rw [jif_t (by rw [hl]), decide_eq_false (by omega), decide_eq_true hl, Bool.false_or, Bool.true_and, show (0 : Int32) = nI 0 from rfl]
      have loop : ∀ n i, i + n = w.length → jval d 220 48 [.ref 117, .int (nI j), .int (nI w.length), .int (nI i)] [] (jGs L g, I, J) = some (some (.int (bI (yLx (w.drop i) (u.drop i)))), (jGs L g, I, J)) := by
        intro n
        induction n with
        | zero =>
          intro i hi
          rw [e_TextValuesModel_isLess_48, jif_t (nI_le (by omega) (by omega)), e_TextValuesModel_isLess_79, jif_t (nI_le (by omega) (by omega)), e_TextValuesModel_isLess_108, e_TextValuesModel_isLess_109, jif_t (Or.inl rfl), List.drop_eq_nil_of_le (by omega)]
          rfl
        | succ n ih =>
          intro i hi
          have w3 := kW_get kw (show i < w.length by omega)
          have u3 := kW_get e3 (show i < u.length by omega)
          rw [drop_c (show i < w.length by omega), drop_c (show i < u.length by omega)]
          have r1 : I 155 i = nI (w.getD i 0) := hp i (by omega)
          have r2 : I 154 (100 * j + i) = nI (u.getD i 0) := e5 i (by omega)
          have e79 : jval d 220 79 [.ref 117, .int (nI j), .int (nI w.length), .int (nI i)] [] (jGs L g, I, J) = jif (nI (u.getD i 0) ≤ nI (w.getD i 0)) (some (some (.int (nI 0)), (jGs L g, I, J))) (some (some (.int (nI 1)), (jGs L g, I, J))) := by
            rw [e_TextValuesModel_isLess_79, jif_f (nI_ge (by omega) (by omega)), show (100 : Int32) = nI 100 from rfl, nI_mul, nI_add, jin_nI (by omega) (by omega), jin_nI (by omega) (by omega), nI_c (by omega), nI_c (by omega), cond_true, cond_true, r1, r2, e_TextValuesModel_isLess_108, e_TextValuesModel_isLess_109, jif_t (Or.inl rfl), e_TextValuesModel_isLess_109, jif_t (Or.inr rfl)]
            rfl
          rw [e_TextValuesModel_isLess_48, jif_f (nI_ge (by omega) (by omega)), show (100 : Int32) = nI 100 from rfl, nI_mul, nI_add, jin_nI (by omega) (by omega), jin_nI (by omega) (by omega), nI_c (by omega), nI_c (by omega), cond_true, cond_true, r1, r2, nI_1, e79]
          show _ = some (some (Value.int (bI (if w.getD i 0 = u.getD i 0 then yLx (w.drop (i + 1)) (u.drop (i + 1)) else decide (w.getD i 0 < u.getD i 0)))), (jGs L g, I, J))
          by_cases he : w.getD i 0 = u.getD i 0
          · rw [jif_t (by rw [he]), if_pos he]
            exact ih (i + 1) (by omega)
          · rw [jif_f (fun e => he ((nI_eq (by omega) (by omega)).mp e)), if_neg he]
            by_cases hlt : w.getD i 0 < u.getD i 0
            · rw [jif_f (nI_ge (by omega) (by omega)), decide_eq_true hlt]; rfl
            · rw [jif_t (nI_le (by omega) (by omega)), decide_eq_false hlt]; rfl
      exact loop w.length 0 (by omega)
    · rw [jif_f (fun e => hl ((nI_eq (by omega) (by omega)).mp e)), e_TextValuesModel_isLess_20, jj, cj, cond_true, e4, jif_f ne, cond_true, decide_eq_false hl, Bool.false_and, Bool.or_false]
      by_cases hlt : w.length < u.length
      · rw [jif_f (nI_ge (by omega) (by omega)), e_TextValuesModel_isLess_40, e_TextValuesModel_isLess_45, jif_t (Or.inr rfl), decide_eq_true hlt]; rfl
      · rw [jif_t (nI_le (by omega) (by omega)), e_TextValuesModel_isLess_45, jif_t (Or.inl rfl), decide_eq_false hlt]; rfl
theorem r_rings {q : Nat → Nat → Nat} {P : Nat → kA} {D W a o m : Nat} {V : yV} {G : yG} {I : Nat → Nat → Int32} (hB : rB q P D W I) (hs : rSt I 4 (some V)) (hG : rG q G o m I) (ha : a < q 117 35) (hb : bS q a) (hk3 : q 138 a = 3) : ∃ I', fY 5 I I' ∧ (∀ y, y < 10240 → I' 125 y = 0) ∧ I' 117 55 = I 117 55 ∧ rSt I' 4 (some V) ∧ rG q (yRing q P V a G) o m I' ∧ jcall (d + 9) 221 [.ref 117, .int (nI a)] (jGs L g, I, J) = some (none, (jGs L g, I', J)) := by
  obtain ⟨v4, w4, j42⟩ := hb.2.2.1 hk3
  have hpb := hB.2.2.2.2.2.2.2
  have b35 := hpb.2.2.1
  have b42 := hpb.2.2.2
  have hs0 := hs
  rcases hs with ⟨e1, _⟩ | ⟨V', e1, e2, e3⟩
  · cases e1
  · cases e1
    obtain ⟨q1, q2, q3, q4, -⟩ := hB.1.2.1 a ha
    have ja : jin (nI a) 130 = true := jin_nI (by omega) (by omega)
    have ca : (nI a).toNatClampNeg = a := nI_c (by omega)
    obtain ⟨I1, ol, a1, a2, a3⟩ := r_common d L g (J := J) (I := I) (a := 4 + q 139 a) (b := q 140 a) (e3 _ v4).1 (hB.2.1 _ w4).1 (by omega) (by omega) hB.2.2.1
    have hcm : yCm (V (q 139 a)) (P (q 140 a)) = ol := yCm_eq a2
    have n0 : ∀ a j, a = 151 ∨ a = 152 ∨ a = 153 ∨ a = 154 ∨ (a = 119 ∧ j < 1760) ∨ (a = 117 ∧ (j = 55 ∨ j = 63 ∨ j = 64)) → ¬ mSc2 a j := fun a j ha hx => by unfold mSc2 mScr at hx; omega
    have s1 : ∀ a j, a = 151 ∨ a = 152 ∨ a = 153 ∨ a = 154 ∨ (a = 119 ∧ j < 1760) ∨ (a = 117 ∧ (j = 55 ∨ j = 63 ∨ j = 64)) → I1 a j = I a j := fun a j ha => a1.1 a j (n0 a j ha) (by omega)
    have F1 : fY 5 I I1 := ⟨fun a j hx => a1.1 a j (fun e => hx (Or.inl e)) (by unfold yX at hx; omega), fun j hj => s1 _ _ (by omega), fun j _ _ => s1 _ _ (by omega), fun j _ => s1 _ _ (by omega)⟩
    have S1 : rSt I1 4 (some V) := rSt_cg hs0 (s1 _ _ (by omega)) (fun v hv c hc => s1 _ _ (by omega))
    have E1 : eG I I1 := ⟨fun j hj => s1 _ _ (by omega), fun j => s1 _ _ (by omega), fun j => s1 _ _ (by omega)⟩
    have G1 := rG_e hG E1
    have B1 := rB_f hB F1 a1.2
    obtain ⟨o1, o2, o3, o4, -⟩ := B1.1.2.1 a ha
    rw [c_TextValuesModel_rings, e_TextValuesModel_rings_0, ja, ca, cond_true, cond_true, q2, q3, show (4 : Int32) = nI 4 from rfl, nI_add]
    unfold yRing
    rw [hcm]
    rcases a3 with ⟨f1, f2⟩ | ⟨w, f1, f2, f3, f4, f5⟩
    · subst f1
      refine ⟨I1, F1, a1.2, s1 _ _ (by omega), S1, ⟨G1.1, G1.2.1, G1.2.2.1, G1.2.2.2.1, fun j hj => ?_⟩, ?_⟩
      · show rRa I1 j (jup G.2.2 (q 141 a) (G.2.2 (q 141 a)) j)
        by_cases hjj : j = q 141 a
        · rw [hjj, jup_s]; exact G1.2.2.2.2 _ j42
        · rw [jup_n hjj]; exact G1.2.2.2.2 j hj
      · rw [f2, jcI_some, e_TextValuesModel_rings_18, ja, cond_true, jif_t rfl, e_TextValuesModel_rings_81]
    · subst f1
      have ne : ¬ nI w.length = (-1 : Int32) := by rw [show (-1 : Int32) = -nI 1 from rfl, zi_m1e (by omega)]; exact id
      have hl := r_isLess (d + 7) L g (J := J) (I := I1) (j := q 141 a) (by omega) f2 f3 f4 (G1.2.2.2.2 _ j42)
      rw [f5, jcI_some, e_TextValuesModel_rings_18, ja, ca, cond_true, jif_f ne, o4, hl, jcI_some, e_TextValuesModel_rings_37]
      -- the new text is kept
      have keep : ∃ I', fY 5 I I' ∧ (∀ y, y < 10240 → I' 125 y = 0) ∧ I' 117 55 = I 117 55 ∧ rSt I' 4 (some V) ∧ rG q (G.1, G.2.1, jup G.2.2 (q 141 a) (some w)) o m I' ∧ (cond (jin (nI (q 141 a)) 40) (jval (d + 8) 221 50 [.ref 117, jjunk, .int (nI w.length), .int (nI (q 141 a)), .int (0 : Int32)] [] (jGs L g, ju I1 153 (nI (q 141 a)).toNatClampNeg (nI w.length), J)) none) = some (none, (jGs L g, I', J)) := by
        have loop : ∀ n x I2, x + n = w.length → (∀ b j, ¬ (b = 154 ∧ 100 * q 141 a ≤ j ∧ j < 100 * q 141 a + 100) → ¬ (b = 153 ∧ j = q 141 a) → I2 b j = I1 b j) → I2 153 (q 141 a) = nI w.length → (∀ y, y < x → I2 154 (100 * q 141 a + y) = nI (w.getD y 0)) → ∃ I', (∀ b j, ¬ (b = 154 ∧ 100 * q 141 a ≤ j ∧ j < 100 * q 141 a + 100) → ¬ (b = 153 ∧ j = q 141 a) → I' b j = I1 b j) ∧ I' 153 (q 141 a) = nI w.length ∧ (∀ y, y < w.length → I' 154 (100 * q 141 a + y) = nI (w.getD y 0)) ∧ jval (d + 8) 221 50 [.ref 117, jjunk, .int (nI w.length), .int (nI (q 141 a)), .int (nI x)] [] (jGs L g, I2, J) = some (none, (jGs L g, I', J)) := by
          intro n
          induction n with
          | zero =>
            intro x I2 hx y1 y2 y3
            refine ⟨I2, y1, y2, fun y hy => y3 y (by omega), ?_⟩
            rw [e_TextValuesModel_rings_50, jif_t (nI_le (by omega) (by omega)), e_TextValuesModel_rings_81]
          | succ n ih =>
            intro x I2 hx y1 y2 y3
            have r1 : I2 155 x = nI (w.getD x 0) := (y1 _ _ (by omega) (by omega)).trans (f4 x (by omega))
            obtain ⟨I', z1, z2, z3, z4⟩ := ih (x + 1) (ju I2 154 (100 * q 141 a + x) (nI (w.getD x 0))) (by omega) (fun a j h1 h2 => by rw [ju_ne (by omega)]; exact y1 a j h1 h2) (by rw [zu_a (by omega)]; exact y2) (fun y hy => by
              by_cases hyx : y = x
              · rw [hyx, zu_at]
              · rw [zu_k (by omega)]; exact y3 y (by omega))
            refine ⟨I', z1, z2, z3, ?_⟩
            rw [e_TextValuesModel_rings_50, jif_f (nI_ge (by omega) (by omega)), show (100 : Int32) = nI 100 from rfl, nI_mul, nI_add, jin_nI (by omega) (by omega), jin_nI (by omega) (by omega), nI_c (by omega), nI_c (by omega), cond_true, cond_true, r1, nI_1]
            exact z4
        obtain ⟨I', z1, z2, z3, z4⟩ := loop w.length 0 (ju I1 153 (q 141 a) (nI w.length)) (by omega) (fun a j h1 h2 => ju_ne (by omega)) (zu_at _ _ _ _) (fun y hy => absurd hy (by omega))
        have F2 : fY 5 I1 I' := ⟨fun a j hx => z1 a j (by unfold yX at hx; omega) (by unfold yX at hx; omega), fun j _ => z1 _ _ (by omega) (by omega), fun j _ _ => z1 _ _ (by omega) (by omega), fun j _ => z1 _ _ (by omega) (by omega)⟩
        refine ⟨I', fY_t F1 F2, fun y hy => by rw [z1 _ _ (by omega) (by omega)]; exact a1.2 y hy, (z1 _ _ (by omega) (by omega)).trans (s1 _ _ (by omega)), rSt_cg S1 (z1 _ _ (by omega) (by omega)) (fun v hv c hc => z1 _ _ (by omega) (by omega)), ⟨(z1 _ _ (by omega) (by omega)).trans G1.1, (z1 _ _ (by omega) (by omega)).trans G1.2.1, G1.2.2.1, G1.2.2.2.1, fun j hj => ?_⟩, ?_⟩
        · show rRa I' j (jup G.2.2 (q 141 a) (some w) j)
          by_cases hjj : j = q 141 a
          · rw [hjj, jup_s]; exact Or.inr ⟨w, rfl, f2, f3, z2, z3⟩
          · rw [jup_n hjj]; exact rRa_cg (G1.2.2.2.2 j hj) (z1 _ _ (by omega) (by omega)) (fun x hx => z1 _ _ (by omega) (by omega))
        · rw [jin_nI (by omega) (by omega), cond_true, nI_c (by omega), show (0 : Int32) = nI 0 from rfl]
          exact z4
      cases hu : G.2.2 (q 141 a) with
      | none =>
        rw [show yNw w none = true from rfl, jif_f (by decide)]
        exact keep
      | some u =>
        show ∃ I', _ ∧ _ ∧ _ ∧ _ ∧ rG q (G.1, G.2.1, jup G.2.2 (q 141 a) (if yLs w u = true then some w else some u)) o m I' ∧ jif (bI (yLs w u) = 0) _ _ = _
        cases hls : yLs w u with
        | true =>
          rw [jif_f (by decide), if_pos rfl]
          exact keep
        | false =>
          rw [jif_t (by decide), if_neg (by decide)]
          refine ⟨I1, F1, a1.2, s1 _ _ (by omega), S1, ⟨G1.1, G1.2.1, G1.2.2.1, G1.2.2.2.1, fun j hj => ?_⟩, e_TextValuesModel_rings_81 ..⟩
          show rRa I1 j (jup G.2.2 (q 141 a) (some u) j)
          by_cases hjj : j = q 141 a
          · rw [hjj, jup_s, ← hu]; exact G1.2.2.2.2 _ j42
          · rw [jup_n hjj]; exact G1.2.2.2.2 j hj
end MM

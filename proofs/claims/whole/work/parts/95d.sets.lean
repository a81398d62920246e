/-! ANALYSIS, THE REFERENCE: joins, a variable is set -/
set_option maxRecDepth 100000
def pOk (q : Nat → Nat → Nat) (k : Nat) : Prop := k < q 117 44 ∧ ((q 144 k = 0 ∧ q 145 k < 4) ∨ (q 144 k = 2 ∧ q 145 k < 4) ∨ (q 144 k = 1 ∧ q 145 k + q 146 k ≤ q 117 48 ∧ ∀ j, j < q 146 k → q 120 (q 145 k + j) < 3))
theorem cd_ok {q : Nat → Nat → Nat} : ∀ f p k e, cd q f p k e → ∀ k', k ≤ k' → k' < e → pOk q k' := by
  intro f
  induction f with
  | zero => intro p k e h; exact h.elim
  | succ f ih =>
    intro p k e h k' h1 h2
    obtain ⟨hp, h⟩ := h
    rcases h with ⟨e1, -⟩ | ⟨e1, e2, h⟩
    · omega
    · by_cases hk : k' = k
      · subst hk
        refine ⟨e2, ?_⟩
        rcases h with ⟨y1, y2, -⟩ | ⟨y1, y2, -⟩ | ⟨y1, y2, y3, y4, -⟩
        · exact Or.inl ⟨y1, y2⟩
        · exact Or.inr (Or.inl ⟨y1, y2⟩)
        · exact Or.inr (Or.inr ⟨y1, y3, fun j hj => (y4 j hj).1⟩)
      · rcases h with ⟨-, -, -, y⟩ | ⟨-, -, -, y⟩ | ⟨-, -, -, -, -, y⟩
        · exact ih _ _ _ y k' (by omega) h2
        · exact ih _ _ _ y k' (by omega) h2
        · exact ih _ _ _ y k' (by omega) h2
/-- what stays through the analysis -/
def rB (q : Nat → Nat → Nat) (P : Nat → kA) (D W : Nat) (I : Nat → Nat → Int32) : Prop := rQ q I ∧ (∀ i, i < 4 → mR I i (P i) ∧ kV (P i)) ∧ (∀ y, y < 10240 → I 125 y = 0) ∧ I 117 58 = nI D ∧ I 117 59 = nI W ∧ D ≤ 5 ∧ W < 2 ∧ pBd 120 q
theorem rQ_f {q : Nat → Nat → Nat} {I I' : Nat → Nat → Int32} (h : rQ q I) (he : ∀ a k, ¬ yX a k → I' a k = I a k) : rQ q I' := by
  obtain ⟨⟨h1, h2, h3, h4, h5⟩, h6, h7, h8, h9⟩ := h
  have no : ∀ a k, a = 120 ∨ (138 ≤ a ∧ a ≤ 146) ∨ (a = 117 ∧ (k = 35 ∨ k = 41 ∨ k = 42 ∨ k = 44 ∨ k = 48)) → ¬ yX a k := fun a k ha hx => by unfold yX mSc2 mScr at hx; omega
  refine ⟨⟨?_, ?_, ?_, ?_, ?_⟩, fun k hk => ?_, fun k hk => ?_, fun k hk => ?_, fun k hk => ?_⟩
  · rw [he _ _ (no _ _ (by omega))]; exact h1
  · rw [he _ _ (no _ _ (by omega))]; exact h2
  · rw [he _ _ (no _ _ (by omega))]; exact h3
  · rw [he _ _ (no _ _ (by omega))]; exact h4
  · rw [he _ _ (no _ _ (by omega))]; exact h5
  · rw [he _ _ (no _ _ (by omega)), he _ _ (no _ _ (by omega)), he _ _ (no _ _ (by omega)), he _ _ (no _ _ (by omega)), he _ _ (no _ _ (by omega))]; exact h6 k hk
  · rw [he _ _ (no _ _ (by omega))]; exact h7 k hk
  · rw [he _ _ (no _ _ (by omega)), he _ _ (no _ _ (by omega)), he _ _ (no _ _ (by omega))]; exact h8 k hk
  · rw [he _ _ (no _ _ (by omega))]; exact h9 k hk
theorem rB_f {q : Nat → Nat → Nat} {P : Nat → kA} {D W k : Nat} {I I' : Nat → Nat → Int32} (h : rB q P D W I) (hf : fY k I I') (h0 : ∀ y, y < 10240 → I' 125 y = 0) : rB q P D W I' := by
  obtain ⟨h1, h2, h3, h4, h5, h6⟩ := h
  have no : ∀ j, j = 58 ∨ j = 59 → ¬ yX 117 j := fun j hj hx => by unfold yX mSc2 mScr at hx; omega
  exact ⟨rQ_f h1 hf.1, fun i hi => ⟨mR_cg (h2 i hi).1 (fun c hc => hf.2.1 _ (by omega)), (h2 i hi).2⟩, h0, (hf.1 _ _ (no _ (Or.inl rfl))).trans h4, (hf.1 _ _ (no _ (Or.inr rfl))).trans h5, h6⟩
/-- the counters and the alarms' texts stay -/
def eG (I I' : Nat → Nat → Int32) : Prop := (∀ j, j = 55 ∨ j = 63 ∨ j = 64 → I' 117 j = I 117 j) ∧ (∀ j, I' 153 j = I 153 j) ∧ ∀ j, I' 154 j = I 154 j
theorem eG_t {I I1 I2 : Nat → Nat → Int32} (h : eG I I1) (h' : eG I1 I2) : eG I I2 := ⟨fun j hj => (h'.1 j hj).trans (h.1 j hj), fun j => (h'.2.1 j).trans (h.2.1 j), fun j => (h'.2.2 j).trans (h.2.2 j)⟩
theorem eG_op {I I' : Nat → Nat → Int32} {into : Nat} (h : mOp I I' into) : eG I I' := by
  have no : ∀ a j, a = 153 ∨ a = 154 ∨ (a = 117 ∧ (j = 55 ∨ j = 63 ∨ j = 64)) → ¬ mSc2 a j := fun a j ha hx => by unfold mSc2 mScr at hx; omega
  exact ⟨fun j hj => h.1 _ _ (no _ _ (by omega)) (by omega), fun j => h.1 _ _ (no _ _ (by omega)) (by omega), fun j => h.1 _ _ (no _ _ (by omega)) (by omega)⟩
theorem eG_r (I : Nat → Nat → Int32) : eG I I := ⟨fun _ _ => rfl, fun _ => rfl, fun _ => rfl⟩
theorem mOp_cp {I : Nat → Nat → Int32} {a b : Nat} (h0 : ∀ y, y < 10240 → I 125 y = 0) : mOp I (mCp I a b 32) b := ⟨fun x j _ hx => by rw [mCp_n hx], fun j _ hj => mCp_out hj, fun y hy => by rw [mCp_n (by omega)]; exact h0 y hy⟩
section MM
variable (d L : Nat) (g : jG) {J : Nat → Nat → Int64}
theorem r_joins {h : Nat} {s t : Option yV} {I : Nat → Nat → Int32} (h8 : 8 ≤ h) (h44 : h + 4 ≤ 48) (hs : rSt I h s) (ht : rSt I 4 t) (h0 : ∀ y, y < 10240 → I 125 y = 0) : ∃ I', fY 5 I I' ∧ (∀ y, y < 10240 → I' 125 y = 0) ∧ eG I I' ∧ rSt I' 4 (yJn s t) ∧ jcall (d + 10) 216 [.ref 117, .int (nI h)] (jGs L g, I, J) = some (none, (jGs L g, I', J)) := by
  rcases hs with ⟨e1, e2⟩ | ⟨V, e1, e2, e3⟩
  · subst e1
    refine ⟨I, fY_r 5 I, h0, eG_r I, ht, ?_⟩
    rw [c_TextValuesModel_joins, e_TextValuesModel_joins_0, jin_nI (by omega) (by omega), cond_true, nI_c (by omega), jif_t (show I 151 h = (1 : Int32) from e2)]
  · subst e1
    have ne1 : ¬ I 151 h = (1 : Int32) := by rw [e2]; decide
    rcases ht with ⟨f1, f2⟩ | ⟨Wv, f1, f2, f3⟩
    · subst f1
      obtain ⟨I1, a1, a2, a3, a4, a5⟩ := r_copiesAll (d + 7) L g (J := J) (I := I) (a := h) (b := 4) (by omega) (by omega) (by omega)
      refine ⟨I1, ⟨fun a j hx => a1 a j (by unfold yX at hx; omega) (by unfold yX at hx; omega), fun j hj => a2 j (by omega), fun j y1 y2 => a3 j (by omega), fun j _ => a1 _ _ (by omega) (by omega)⟩, fun y hy => by rw [a1 _ _ (by omega) (by omega)]; exact h0 y hy, ⟨fun j _ => a1 _ _ (by omega) (by omega), fun j => a1 _ _ (by omega) (by omega), fun j => a1 _ _ (by omega) (by omega)⟩, a4 _ (Or.inr ⟨V, rfl, e2, e3⟩), ?_⟩
      rw [c_TextValuesModel_joins, e_TextValuesModel_joins_0, jin_nI (by omega) (by omega), cond_true, nI_c (by omega), jif_f ne1, show (4 : Int32) = nI 4 from rfl, jin_nI (by omega) (by omega), cond_true, nI_c (by omega), jif_t (show I 151 4 = (1 : Int32) from f2), a5, jcV_some, e_TextValuesModel_joins_27]
    · subst f1
      have loop : ∀ n v I1, v + n = 4 → fY 5 I I1 → (∀ y, y < 10240 → I1 125 y = 0) → eG I I1 → I1 151 4 = nI 0 → (∀ w, w < 4 → mR I1 (h + w) (V w)) → (∀ w, w < 4 → mR I1 (4 + w) (if w < v then vPair 0 (V w) (Wv w) else Wv w)) → ∃ I', fY 5 I I' ∧ (∀ y, y < 10240 → I' 125 y = 0) ∧ eG I I' ∧ rSt I' 4 (yJn (some V) (some Wv)) ∧ jval (d + 9) 216 30 [.ref 117, .int (nI h), .int (nI v)] [] (jGs L g, I1, J) = some (none, (jGs L g, I', J)) := by
        intro n
        induction n with
        | zero =>
          intro v I1 hn y1 y2 y3 y4 y5 y6
          refine ⟨I1, y1, y2, y3, Or.inr ⟨_, rfl, y4, fun w hw => ?_⟩, ?_⟩
          · have := y6 w hw
            rw [if_pos (by omega)] at this
            exact ⟨this, vPair_V (e3 w hw).2⟩
          · rw [e_TextValuesModel_joins_30, show (4 : Int32) = nI 4 from rfl, jif_t (nI_le (by omega) (by omega))]
        | succ n ih =>
          intro v I1 hn y1 y2 y3 y4 y5 y6
          have hc := y6 v (by omega)
          rw [if_neg (by omega)] at hc
          obtain ⟨I2, b1, b2, b3⟩ := r_pairs d L g (J := J) (m := 0) (a := h + v) (b := 4 + v) (into := 4 + v) (by omega) (y5 v (by omega)) hc (by omega) (by omega) (by omega) y2
          have n0 : ¬ mSc2 151 4 := fun hx => by unfold mSc2 mScr at hx; omega
          obtain ⟨I', z1, z2, z3, z4, z5⟩ := ih (v + 1) I2 (by omega) (fY_t y1 (fY_op b1 (Or.inl ⟨by omega, by omega⟩))) b1.2.2 (eG_t y3 (eG_op b1)) ((b1.1 151 4 n0 (by omega)).trans y4) (fun w hw => mR_cg (y5 w hw) (fun c hc => b1.2.1 _ (by omega) (by omega))) (fun w hw => by
            by_cases hwv : w = v
            · rw [hwv, if_pos (by omega)]; exact b2
            · by_cases hlt : w < v
              · have := y6 w hw
                rw [if_pos hlt] at this
                rw [if_pos (by omega)]
                exact mR_cg this (fun c hc => b1.2.1 _ (by omega) (by omega))
              · have := y6 w hw
                rw [if_neg hlt] at this
                rw [if_neg (by omega)]
                exact mR_cg this (fun c hc => b1.2.1 _ (by omega) (by omega)))
          refine ⟨I', z1, z2, z3, z4, ?_⟩
          rw [e_TextValuesModel_joins_30, show (4 : Int32) = nI 4 from rfl, jif_f (nI_ge (by omega) (by omega)), show (0 : Int32) = nI 0 from rfl, nI_add, nI_add, b3, jcV_some, e_TextValuesModel_joins_49, nI_1]
          exact z5
      obtain ⟨I', z1, z2, z3, z4, z5⟩ := loop 4 0 I (by omega) (fY_r 5 I) h0 (eG_r I) f2 (fun w hw => (e3 w hw).1) (fun w hw => by rw [if_neg (by omega)]; exact (f3 w hw).1)
      refine ⟨I', z1, z2, z3, z4, ?_⟩
      rw [c_TextValuesModel_joins, e_TextValuesModel_joins_0, jin_nI (by omega) (by omega), cond_true, nI_c (by omega), jif_f ne1, show (4 : Int32) = nI 4 from rfl, jin_nI (by omega) (by omega), cond_true, nI_c (by omega), jif_f (by rw [f2]; decide), show (0 : Int32) = nI 0 from rfl]
      exact z5
theorem r_laysPart {q : Nat → Nat → Nat} {P : Nat → kA} {D W k into : Nat} {V : yV} {I : Nat → Nat → Int32} (hB : rB q P D W I) (hs : ∀ v, v < 4 → mR I (4 + v) (V v) ∧ kV (V v)) (hk : pOk q k) (hi : into = 52 ∨ into = 53) : ∃ I', mOp I I' into ∧ mR I' into (yPt q P V k) ∧ kV (yPt q P V k) ∧ jcall (d + 10) 217 [.ref 117, .int (nI k), .int (nI into)] (jGs L g, I, J) = some (none, (jGs L g, I', J)) := by
  obtain ⟨hQ, hP, h0, -, -, -, -, hpb⟩ := hB
  obtain ⟨hk1, hk2⟩ := hk
  have b44 := hpb.2.1
  have b48 := hpb.1
  obtain ⟨p1, p2, p3⟩ := hQ.2.2.2.1 k hk1
  have jk : jin (nI k) 120 = true := jin_nI (by omega) (by omega)
  have ck : (nI k).toNatClampNeg = k := nI_c (by omega)
  rw [c_TextValuesModel_laysPart, e_TextValuesModel_laysPart_0, jk, ck, p1, p2, p3]
  unfold yPt
  rcases hk2 with ⟨y1, y2⟩ | ⟨y1, y2⟩ | ⟨y1, y2, y3⟩
  · rw [if_pos y1, y1, cond_true, cond_true, jif_t (by decide), show (4 : Int32) = nI 4 from rfl, nI_add, s_copies (d + 8) L g I J (by omega) (by omega), jcV_some, e_TextValuesModel_laysPart_22, e_TextValuesModel_laysPart_66]
    exact ⟨_, mOp_cp h0, mR_cp (hs _ y2).1 (by omega), (hs _ y2).2, rfl⟩
  · rw [if_neg (by omega), if_neg (by omega), y1, cond_true, cond_true, cond_true, cond_true, cond_true, cond_true, jif_f (by decide), jif_f (by decide), s_copies (d + 8) L g I J (by omega) (by omega), jcV_some, e_TextValuesModel_laysPart_66]
    exact ⟨_, mOp_cp h0, mR_cp (hP _ y2).1 (by omega), (hP _ y2).2, rfl⟩
  · obtain ⟨I1, a1, a2, a3⟩ := r_laysText d L g (J := J) (k := into) (from' := q 145 k) (n := q 146 k) (t := fun i => q 120 (q 145 k + i)) (by omega) (by omega) (fun i hi => hQ.2.2.2.2 _ (by omega)) y3 h0
    rw [if_neg (by omega), if_pos y1, y1, cond_true, cond_true, cond_true, cond_true, cond_true, cond_true, jif_f (by decide), jif_t (by decide), a3, jcV_some, e_TextValuesModel_laysPart_52, e_TextValuesModel_laysPart_66]
    exact ⟨I1, a1, a2, vText_V _ _, rfl⟩
theorem r_setsAt {q : Nat → Nat → Nat} {P : Nat → kA} {D W a : Nat} {V : yV} {I : Nat → Nat → Int32} (hB : rB q P D W I) (hs : rSt I 4 (some V)) (ha : a < q 117 35) (hb : bS q a) (hk1 : q 138 a = 1) : ∃ I', fY 5 I I' ∧ (∀ y, y < 10240 → I' 125 y = 0) ∧ eG I I' ∧ rSt I' 4 (some (jup V (q 141 a) (ySet q P V a))) ∧ jcall (d + 11) 218 [.ref 117, .int (nI a)] (jGs L g, I, J) = some (none, (jGs L g, I', J)) := by
  obtain ⟨v4, lt, le, f, hcd⟩ := hb.1 hk1
  have hs0 := hs
  have hpb := hB.2.2.2.2.2.2.2
  have b35 := hpb.2.2.1
  have b44 := hpb.2.1
  rcases hs with ⟨e1, _⟩ | ⟨V', e1, e2, e3⟩
  · cases e1
  · cases e1
    obtain ⟨q1, q2, q3, q4, -⟩ := hB.1.2.1 a ha
    have ja : jin (nI a) 130 = true := jin_nI (by omega) (by omega)
    have ca : (nI a).toNatClampNeg = a := nI_c (by omega)
    have n0 : ∀ j, ¬ mSc2 151 j := fun j hx => by unfold mSc2 mScr at hx; omega
    -- what stays while 52 and 53 are written
    have stay : ∀ I1 I2 into, (into = 52 ∨ into = 53) → mOp I1 I2 into → rB q P D W I1 → rSt I1 4 (some V) → rB q P D W I2 ∧ rSt I2 4 (some V) ∧ fY 5 I1 I2 ∧ eG I1 I2 := by
      intro I1 I2 into hi ho hB1 hs1
      have hf := fY_op ho (Or.inr (by omega))
      exact ⟨rB_f hB1 hf ho.2.2, rSt_cg hs1 (ho.1 _ _ (n0 _) (by omega)) (fun v hv c hc => ho.2.1 _ (by omega) (by omega)), hf, eG_op ho⟩
    have cur : ∀ I1, rSt I1 4 (some V) → ∀ v, v < 4 → mR I1 (4 + v) (V v) ∧ kV (V v) := by
      intro I1 h1
      rcases h1 with ⟨e1, _⟩ | ⟨V', e1, _, h⟩
      · cases e1
      · cases e1; exact h
    have loop : ∀ n k A I1, k + n = q 140 a → q 139 a < k → rB q P D W I1 → rSt I1 4 (some V) → fY 5 I I1 → eG I I1 → mR I1 53 A → kV A → ∃ I', fY 5 I I' ∧ (∀ y, y < 10240 → I' 125 y = 0) ∧ eG I I' ∧ rSt I' 4 (some (jup V (q 141 a) (yCh q P V n k A))) ∧ jval (d + 10) 218 21 [.ref 117, .int (nI a), .int (nI k)] [] (jGs L g, I1, J) = some (none, (jGs L g, I', J)) := by
      intro n
      induction n with
      | zero =>
        intro k A I1 hn hlt hB1 hs1 hf he hA vA
        obtain ⟨o1, o2, o3, o4, -⟩ := hB1.1.2.1 a ha
        have ho : mOp I1 (mCp I1 53 (4 + q 141 a) 32) (4 + q 141 a) := mOp_cp hB1.2.2.1
        refine ⟨mCp I1 53 (4 + q 141 a) 32, fY_t hf (fY_op ho (Or.inl ⟨by omega, by omega⟩)), ho.2.2, eG_t he (eG_op ho), rSt_op hs1 ho v4 (mR_cp hA (by omega)) vA, ?_⟩
        rw [e_TextValuesModel_setsAt_21, ja, ca, cond_true, cond_true, o3, o4, jif_t (nI_le (by omega) (by omega)), show (4 : Int32) = nI 4 from rfl, show (53 : Int32) = nI 53 from rfl, nI_add, s_copies (d + 9) L g I1 J (by omega) (by omega), jcV_some, e_TextValuesModel_setsAt_68]
      | succ n ih =>
        intro k A I1 hn hlt hB1 hs1 hf he hA vA
        obtain ⟨o1, o2, o3, o4, -⟩ := hB1.1.2.1 a ha
        obtain ⟨I2, a1, a2, a3, a4⟩ := r_laysPart d L g (J := J) (into := 52) hB1 (cur I1 hs1) (cd_ok _ _ _ _ hcd k (by omega) (by omega)) (Or.inl rfl)
        obtain ⟨hB2, hs2, hf2, he2⟩ := stay I1 I2 52 (Or.inl rfl) a1 hB1 hs1
        have hA2 : mR I2 53 A := mR_cg hA (fun c hc => a1.2.1 _ (by omega) (by omega))
        obtain ⟨I3, b1, b2, b3⟩ := r_chains (d + 1) L g (J := J) (a := 53) (b := 52) (into := 53) hA2 a2 (by omega) (by omega) (by omega) hB2.2.2.1
        obtain ⟨hB3, hs3, hf3, he3⟩ := stay I2 I3 53 (Or.inr rfl) b1 hB2 hs2
        obtain ⟨I', z1, z2, z3, z4, z5⟩ := ih (k + 1) (vChain A (yPt q P V k)) I3 (by omega) (by omega) hB3 hs3 (fY_t hf (fY_t hf2 hf3)) (eG_t he (eG_t he2 he3)) b2 (vChain_V _ _)
        refine ⟨I', z1, z2, z3, z4, ?_⟩
        rw [e_TextValuesModel_setsAt_21, ja, ca, cond_true, o3, jif_f (nI_ge (by omega) (by omega)), show (52 : Int32) = nI 52 from rfl, a4, jcV_some, e_TextValuesModel_setsAt_38, show (53 : Int32) = nI 53 from rfl, show (52 : Int32) = nI 52 from rfl, b3, jcV_some, e_TextValuesModel_setsAt_48, nI_1]
        exact z5
    obtain ⟨I2, a1, a2, a3, a4⟩ := r_laysPart d L g (J := J) (into := 53) hB (cur I hs0) (cd_ok _ _ _ _ hcd (q 139 a) (by omega) (by omega)) (Or.inr rfl)
    obtain ⟨hB2, hs2, hf2, he2⟩ := stay I I2 53 (Or.inr rfl) a1 hB hs0
    obtain ⟨I', z1, z2, z3, z4, z5⟩ := loop (q 140 a - q 139 a - 1) (q 139 a + 1) (yPt q P V (q 139 a)) I2 (by omega) (by omega) hB2 hs2 hf2 he2 a2 a3
    refine ⟨I', z1, z2, z3, z4, ?_⟩
    obtain ⟨o1, o2, o3, o4, -⟩ := hB2.1.2.1 a ha
    rw [c_TextValuesModel_setsAt, e_TextValuesModel_setsAt_0, ja, ca, cond_true, q2, show (53 : Int32) = nI 53 from rfl, a4, jcV_some, e_TextValuesModel_setsAt_12, ja, ca, cond_true, o2, nI_1]
    exact z5
end MM

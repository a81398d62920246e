/-! RUNS, THE REFERENCE: draws, texts, letters added -/
set_option maxRecDepth 100000
/-- four texts in a row -/
def uT (V : Nat → List Nat) (lr tr : Nat) (I : Nat → Nat → Int32) : Prop := ∀ v, v < 4 → (V v).length ≤ 40 ∧ kW (V v) ∧ I lr v = nI (V v).length ∧ ∀ x, x < (V v).length → I tr (40 * v + x) = nI ((V v).getD x 0)
def uXr (a j : Nat) : Prop := a = 134 ∨ a = 135 ∨ a = 156 ∨ a = 157 ∨ a = 160 ∨ (a = 117 ∧ (j = 32 ∨ j = 69 ∨ j = 70 ∨ j = 76 ∨ j = 77))
/-- what a run may change -/
def fU (I I' : Nat → Nat → Int32) (J J' : Nat → Nat → Int64) : Prop := (∀ a j, ¬ uXr a j → I' a j = I a j) ∧ ∀ a j, ¬ (a = 117 ∧ j = 68) → J' a j = J a j
theorem fU_t {I I1 I2 : Nat → Nat → Int32} {J J1 J2 : Nat → Nat → Int64} (h : fU I I1 J J1) (h' : fU I1 I2 J1 J2) : fU I I2 J J2 := ⟨fun a j hx => (h'.1 a j hx).trans (h.1 a j hx), fun a j hx => (h'.2 a j hx).trans (h.2 a j hx)⟩
theorem fU_r (I : Nat → Nat → Int32) (J : Nat → Nat → Int64) : fU I I J J := ⟨fun _ _ _ => rfl, fun _ _ _ => rfl⟩
/-- what stays: program and patterns -/
def rD (q : Nat → Nat → Nat) (P : Nat → kA) (I : Nat → Nat → Int32) : Prop := rQ q I ∧ (∀ i, i < 4 → mR I i (P i) ∧ kV (P i)) ∧ pBd 120 q ∧ ∀ i, i < 4 → 0 < sm (P i) 220 0
theorem rD_f {q : Nat → Nat → Nat} {P : Nat → kA} {I I' : Nat → Nat → Int32} {J J' : Nat → Nat → Int64} (h : rD q P I) (hf : fU I I' J J') : rD q P I' := by
  obtain ⟨⟨⟨h1, h2, h3, h4, h5⟩, h6, h7, h8, h9⟩, k2, k3, k4⟩ := h
  have he := hf.1
  have no : ∀ a k, a = 119 ∨ a = 120 ∨ (138 ≤ a ∧ a ≤ 146) ∨ (a = 117 ∧ (k = 35 ∨ k = 41 ∨ k = 42 ∨ k = 44 ∨ k = 48)) → ¬ uXr a k := fun a k ha hx => by unfold uXr at hx; omega
  refine ⟨⟨⟨?_, ?_, ?_, ?_, ?_⟩, fun k hk => ?_, fun k hk => ?_, fun k hk => ?_, fun k hk => ?_⟩, fun i hi => ⟨mR_cg (k2 i hi).1 (fun c hc => he _ _ (no _ _ (by omega))), (k2 i hi).2⟩, k3, k4⟩
  · rw [he _ _ (no _ _ (by omega))]; exact h1
  · rw [he _ _ (no _ _ (by omega))]; exact h2
  · rw [he _ _ (no _ _ (by omega))]; exact h3
  · rw [he _ _ (no _ _ (by omega))]; exact h4
  · rw [he _ _ (no _ _ (by omega))]; exact h5
  · rw [he _ _ (no _ _ (by omega)), he _ _ (no _ _ (by omega)), he _ _ (no _ _ (by omega)), he _ _ (no _ _ (by omega)), he _ _ (no _ _ (by omega))]; exact h6 k hk
  · rw [he _ _ (no _ _ (by omega))]; exact h7 k hk
  · rw [he _ _ (no _ _ (by omega)), he _ _ (no _ _ (by omega)), he _ _ (no _ _ (by omega))]; exact h8 k hk
  · rw [he _ _ (no _ _ (by omega))]; exact h9 k hk
/-- the letters that are being made -/
def mW (o : Option (List Nat)) (I : Nat → Nat → Int32) : Prop := match o with
  | some w => w.length ≤ 40 ∧ I 117 76 = nI w.length ∧ (∀ x, x < w.length → I 160 x = nI (w.getD x 0)) ∧ I 117 70 = 0
  | none => (∃ m, m ≤ 40 ∧ I 117 76 = nI m) ∧ I 117 70 = 1
section MM
variable (d L : Nat) (g : jG)
theorem r_draws {I : Nat → Nat → Int32} {J : Nat → Nat → Int64} {x n : Nat} (hx : x < 2147483648) (hJ : J 117 68 = lN x) (h0 : 0 < n) (hn : n < 100) : jcall (d + 1) 230 [.ref 117, .int (nI n)] (jGs L g, I, J) = some (some (.int (nI (uDr x / 65536 % n))), (jGs L g, I, ju J 117 68 (lN (uDr x)))) := by
  have e1 : J 117 68 * (1103515245 : Int64) + (12345 : Int64) = lN (x * 1103515245 + 12345) := by
    rw [hJ, show (1103515245 : Int64) = lN 1103515245 from rfl, show (12345 : Int64) = lN 12345 from rfl, lN_mul, lN_add]
  have hb : x * 1103515245 + 12345 < 2 ^ 63 := by omega
  have hu := uDr_lt x
  have e2 : lN (x * 1103515245 + 12345) - lN (x * 1103515245 + 12345) / (2147483648 : Int64) * (2147483648 : Int64) = lN (uDr x) := by
    rw [show (2147483648 : Int64) = lN 2147483648 from rfl, pk_lRem hb (by omega) (by omega), uDr_eq]
  have hn' : (nI n).toInt64 = lN n := nI_l (by omega)
  have e3 : lN (uDr x) / (65536 : Int64) = lN (uDr x / 65536) := by
    rw [show (65536 : Int64) = lN 65536 from rfl, pk_lDiv (by omega) (by omega) (by omega)]
  have e4 : lN (uDr x / 65536) - lN (uDr x / 65536) / lN n * lN n = lN (uDr x / 65536 % n) := pk_lRem (by omega) h0 (by omega)
  have z : ¬ lN n = (0 : Int64) := fun e => by
    have := (pk_lEQ (a := n) (b := 0) (by omega) (by omega)).mp e
    omega
  rw [c_TextValuesModel_draws, e_TextValuesModel_draws_0, jif_f (by decide), jif_f (by decide), e1, e2, e3, hn', e4, jif_f z, lN_i]
theorem r_isIn {I : Nat → Nat → Int32} {J : Nat → Nat → Int64} {k tr off N : Nat} {A : kA} {w : List Nat} (hA : mR I k A) (kt : (jGs L g).1 tr = 15) (lt : (jGs L g).2.1 tr = N) (hN : N < 100000) (hw : kW w) (hl : off + w.length ≤ N) (hx : ∀ x, x < w.length → I tr (off + x) = nI (w.getD x 0)) : jcall (d + 3) 231 [.ref 117, .int (nI k), .ref tr, .int (nI off), .int (nI w.length)] (jGs L g, I, J) = some (some (.int (bI (kL A 0 w))), (jGs L g, I, J)) := by
  have loop : ∀ m i r, i + m = w.length → r < A.1 → kL A r (w.drop i) = kL A 0 w → jval (d + 2) 231 6 [.ref 117, .int (nI k), .ref tr, .int (nI off), .int (nI w.length), .int (nI r), .int (nI i)] [] (jGs L g, I, J) = some (some (.int (bI (kL A 0 w))), (jGs L g, I, J)) := by
    intro m
    induction m with
    | zero =>
      intro i r hi hr he
      rw [List.drop_eq_nil_of_le (by omega)] at he
      have he' : A.2.1 r = kL A 0 w := he
      rw [e_TextValuesModel_isIn_6, jif_t (nI_le (by omega) (by omega)), r_isEnd d L g J hA hr, jcI_some, he', e_TextValuesModel_isIn_41, jif_t (by cases kL A 0 w <;> decide)]
    | succ m ih =>
      intro i r hi hr he
      have w3 := kW_get hw (show i < w.length by omega)
      rw [drop_c (show i < w.length by omega)] at he
      rw [e_TextValuesModel_isIn_6, jif_f (nI_ge (by omega) (by omega)), if_pos (Or.inl kt), lt, nI_add, jin_nI (by omega) (by omega), cond_true, nI_c (by omega), hx i (by omega), r_to (d + 1) L g J hA hr w3, jcI_some, e_TextValuesModel_isIn_26, nI_1]
      exact ih (i + 1) _ (by omega) (hA.2.2.1.2 r hr _ w3) he
  rw [c_TextValuesModel_isIn, e_TextValuesModel_isIn_0, show (0 : Int32) = nI 0 from rfl]
  exact loop w.length 0 0 (by omega) hA.2.2.1.1 rfl
theorem r_holdsNow {I : Nat → Nat → Int32} {J : Nat → Nat → Int64} {V : Nat → List Nat} {v k : Nat} {A : kA} (hA : mR I k A) (hT : uT V 157 156 I) (hv : v < 4) : jcall (d + 4) 232 [.ref 117, .int (nI v), .int (nI k)] (jGs L g, I, J) = some (some (.int (bI (kL A 0 (V v)))), (jGs L g, I, J)) := by
  obtain ⟨h1, h2, h3, h4⟩ := hT v hv
  rw [c_TextValuesModel_holdsNow, e_TextValuesModel_holdsNow_0, jin_nI (by omega) (by omega), cond_true, nI_c (by omega), h3, show (40 : Int32) = nI 40 from rfl, nI_mul, r_isIn d L g (N := 160) hA rfl rfl (by omega) h2 (by omega) h4, jcI_some, e_TextValuesModel_holdsNow_19, jif_t (by cases kL A 0 (V v) <;> decide)]
theorem r_adds {I : Nat → Nat → Int32} {J : Nat → Nat → Int64} {o : Option (List Nat)} {l : Nat} (h : mW o I) : ∃ I', (∀ a j, ¬ (a = 160 ∨ (a = 117 ∧ (j = 70 ∨ j = 76))) → I' a j = I a j) ∧ mW (uAd o l) I' ∧ jcall (d + 1) 233 [.ref 117, .int (nI l)] (jGs L g, I, J) = some (none, (jGs L g, I', J)) := by
  cases o with
  | none =>
    obtain ⟨⟨m, hm, h1⟩, h2⟩ := h
    have ne : ¬ I 117 70 = (0 : Int32) := by rw [h2]; decide
    by_cases h40 : m < 40
    · refine ⟨ju (ju (ju I 117 70 1) 160 m (nI l)) 117 76 (nI (m + 1)), fun a j hx => by rw [ju_ne (by omega), ju_ne (by omega), ju_ne (by omega)], ⟨⟨m + 1, by omega, zu_at _ _ _ _⟩, by rw [zu_k (by omega), zu_a (by omega), zu_at]⟩, ?_⟩
      rw [c_TextValuesModel_adds, e_TextValuesModel_adds_0, jif_f ne, e_TextValuesModel_adds_17, e_TextValuesModel_adds_22, jif_t (Or.inr rfl), h1, jif_f (show ¬ (40 : Int32) ≤ nI m from nI_ge (b := 40) (by omega) (by omega)), jin_nI (by omega) (by omega), cond_true, nI_c (by omega), nI_1, e_TextValuesModel_adds_54]
    · refine ⟨ju I 117 70 1, fun a j hx => ju_ne (by omega), ⟨⟨m, hm, by rw [zu_k (by omega)]; exact h1⟩, zu_at _ _ _ _⟩, ?_⟩
      rw [c_TextValuesModel_adds, e_TextValuesModel_adds_0, jif_f ne, e_TextValuesModel_adds_17, e_TextValuesModel_adds_22, jif_t (Or.inr rfl), h1, jif_t (show (40 : Int32) ≤ nI m from nI_le (a := 40) (by omega) (by omega)), e_TextValuesModel_adds_54]
  | some w =>
    obtain ⟨h1, h2, h3, h4⟩ := h
    by_cases h40 : w.length < 40
    · have hl : (w ++ [l]).length = w.length + 1 := by simp
      refine ⟨ju (ju (ju I 117 70 0) 160 w.length (nI l)) 117 76 (nI (w.length + 1)), fun a j hx => by rw [ju_ne (by omega), ju_ne (by omega), ju_ne (by omega)], ?_, ?_⟩
      · show mW (if w.length < 40 then some (w ++ [l]) else none) _
        rw [if_pos h40]
        refine ⟨by omega, by rw [zu_at, hl], fun x hx => ?_, by rw [zu_k (by omega), zu_a (by omega), zu_at]⟩
        rw [zu_a (by omega), getD_app]
        by_cases e : x < w.length
        · rw [zu_k (by omega), zu_a (by omega), if_pos e]
          exact h3 x e
        · have : x = w.length := by omega
          subst this
          rw [zu_at, if_neg e, Nat.sub_self]
          rfl
      · rw [c_TextValuesModel_adds, e_TextValuesModel_adds_0, jif_t h4, h2, jif_f (show ¬ nI w.length = (40 : Int32) from fun e => by have := (nI_eq (b := 40) (by omega) (by omega)).mp e; omega), e_TextValuesModel_adds_22, jif_t (Or.inl rfl), h2, jif_f (show ¬ (40 : Int32) ≤ nI w.length from nI_ge (b := 40) (by omega) (by omega)), jin_nI (by omega) (by omega), cond_true, nI_c (by omega), nI_1, e_TextValuesModel_adds_54]
    · have e40 : w.length = 40 := by omega
      refine ⟨ju I 117 70 1, fun a j hx => ju_ne (by omega), ?_, ?_⟩
      · show mW (if w.length < 40 then some (w ++ [l]) else none) _
        rw [if_neg h40]
        exact ⟨⟨40, by omega, by rw [zu_k (by omega), h2, e40]⟩, zu_at _ _ _ _⟩
      · rw [c_TextValuesModel_adds, e_TextValuesModel_adds_0, jif_t h4, h2, e40, jif_t (by decide), e_TextValuesModel_adds_17, e_TextValuesModel_adds_22, jif_t (Or.inr rfl), h2, e40, jif_t (by decide), e_TextValuesModel_adds_54]
/-- how many texts: eight at most -/
theorem r_aP_2 {I0 : Nat → Nat → Int32} {J : Nat → Nat → Int64} {k : Nat} {A : kA} (hk : k < 55) : ∀ m n (I : Nat → Nat → Int32), n + m = 8 → n ≤ sm A 220 0 → spR I0 I → mR I k A → ∃ I', spR I0 I' ∧ jval (d + 4) 234 2 [.ref 117, .int (nI k), .int (nI n), jjunk, jjunk] [] (jGs L g, I, J) = jval (d + 4) 234 23 [.ref 117, .int (nI k), .int (nI (min (sm A 220 0) 8)), jjunk, jjunk] [] (jGs L g, I', J) := by
  intro m
  induction m with
  | zero =>
    intro n I hn hs hI hA
    refine ⟨I, hI, ?_⟩
    rw [e_TextValuesModel_addsPattern_2, jif_t (show (8 : Int32) ≤ nI n from nI_le (a := 8) (by omega) (by omega)), show n = min (sm A 220 0) 8 by omega]
  | succ m ih =>
    intro n I hn hs hI hA
    obtain ⟨I1, a1, a2⟩ := r_spells d L g J hA hk (show n < 1000 by omega)
    have s1 : spR I0 I1 := ⟨fun a y1 y2 y3 => (a1.1 a y1 y2 y3).trans (hI.1 a y1 y2 y3), fun j hj => (a1.2 j hj).trans (hI.2 j hj)⟩
    have A1 : mR I1 k A := mR_cg hA (fun c hc => by rw [a1.1 119 (by omega) (by omega) (by omega)])
    have hi : fT A n = none ↔ sm A 220 0 ≤ n := fTg_iff 220 0 n
    rcases a2 with ⟨w, b1, b2, b3, b4, b5, b6⟩ | ⟨b1, b2⟩
    · have : ¬ sm A 220 0 ≤ n := fun h => by rw [hi.mpr h] at b1; cases b1
      obtain ⟨I', c1, c2⟩ := ih (n + 1) I1 (by omega) (by omega) s1 A1
      refine ⟨I', c1, ?_⟩
      rw [e_TextValuesModel_addsPattern_2, jif_f (show ¬ (8 : Int32) ≤ nI n from nI_ge (b := 8) (by omega) (by omega)), b6, jcI_some, e_TextValuesModel_addsPattern_14, jif_f (by decide), nI_1]
      exact c2
    · have := hi.mp b1
      refine ⟨I1, s1, ?_⟩
      rw [e_TextValuesModel_addsPattern_2, jif_f (show ¬ (8 : Int32) ≤ nI n from nI_ge (b := 8) (by omega) (by omega)), b2, jcI_some, e_TextValuesModel_addsPattern_14, jif_t (by decide), show n = min (sm A 220 0) 8 by omega]
theorem r_aP_37 {J : Nat → Nat → Int64} {w : List Nat} (hw : w.length < 220) : ∀ m i (I : Nat → Nat → Int32) o, i + m = w.length → I 117 32 = nI w.length → (∀ x, x < w.length → I 135 x = nI (w.getD x 0)) → mW o I → ∃ I', (∀ a j, ¬ (a = 160 ∨ (a = 117 ∧ (j = 70 ∨ j = 76))) → I' a j = I a j) ∧ mW (uAdL o (w.drop i)) I' ∧ jval (d + 4) 234 37 [.ref 117, jjunk, jjunk, .int (1 : Int32), .int (nI i)] [] (jGs L g, I, J) = some (none, (jGs L g, I', J)) := by
  intro m
  induction m with
  | zero =>
    intro i I o hi h32 h135 hm
    refine ⟨I, fun _ _ _ => rfl, by rw [List.drop_eq_nil_of_le (by omega)]; exact hm, ?_⟩
    rw [e_TextValuesModel_addsPattern_37, h32, jif_t (nI_le (by omega) (by omega)), e_TextValuesModel_addsPattern_67]
  | succ m ih =>
    intro i I o hi h32 h135 hm
    obtain ⟨I1, a1, a2, a3⟩ := r_adds (d + 3) L g (J := J) (l := w.getD i 0) hm
    obtain ⟨I', b1, b2, b3⟩ := ih (i + 1) I1 _ (by omega) (by rw [a1 _ _ (by omega)]; exact h32) (fun x hx => by rw [a1 _ _ (by omega)]; exact h135 x hx) a2
    refine ⟨I', fun a j hx => (b1 a j hx).trans (a1 a j hx), ?_, ?_⟩
    · rw [drop_c (show i < w.length by omega)]
      exact b2
    · rw [e_TextValuesModel_addsPattern_37, h32, jif_f (nI_ge (by omega) (by omega)), jif_f (by decide), jin_nI (by omega) (by omega), cond_true, nI_c (by omega), h135 i (by omega), a3, jcV_some, e_TextValuesModel_addsPattern_61, nI_1]
      exact b3
theorem mW_cg {o : Option (List Nat)} {I I' : Nat → Nat → Int32} (h : mW o I) (h1 : I' 117 76 = I 117 76) (h2 : I' 117 70 = I 117 70) (h3 : ∀ x, I' 160 x = I 160 x) : mW o I' := by
  cases o with
  | none => exact ⟨by rw [h1]; exact h.1, by rw [h2]; exact h.2⟩
  | some w => exact ⟨h.1, by rw [h1]; exact h.2.1, fun x hx => by rw [h3]; exact h.2.2.1 x hx, by rw [h2]; exact h.2.2.2⟩
theorem r_addsPattern {I : Nat → Nat → Int32} {J : Nat → Nat → Int64} {k x : Nat} {A : kA} {o : Option (List Nat)} (hk : k < 55) (hA : mR I k A) (h0 : 0 < sm A 220 0) (hx : x < 2147483648) (hJ : J 117 68 = lN x) (hm : mW o I) : ∃ I', (∀ a j, ¬ (a = 134 ∨ a = 135 ∨ a = 160 ∨ (a = 117 ∧ (j = 32 ∨ j = 70 ∨ j = 76))) → I' a j = I a j) ∧ mW (uAdL o ((fT A (uDr x / 65536 % min (sm A 220 0) 8)).getD [])) I' ∧ kW ((fT A (uDr x / 65536 % min (sm A 220 0) 8)).getD []) ∧ jcall (d + 5) 234 [.ref 117, .int (nI k)] (jGs L g, I, J) = some (none, (jGs L g, I', ju J 117 68 (lN (uDr x)))) := by
  obtain ⟨I1, a1, a2⟩ := r_aP_2 d L g (I0 := I) (J := J) (A := A) hk 8 0 I (by omega) (by omega) ⟨fun _ _ _ _ => rfl, fun _ _ => rfl⟩ hA
  have A1 : mR I1 k A := mR_cg hA (fun c hc => by rw [a1.1 119 (by omega) (by omega) (by omega)])
  have hd := r_draws (d + 3) L g (I := I1) hx hJ (show 0 < min (sm A 220 0) 8 by omega) (by omega)
  have hlt : uDr x / 65536 % min (sm A 220 0) 8 < min (sm A 220 0) 8 := Nat.mod_lt _ (by omega)
  generalize uDr x / 65536 % min (sm A 220 0) 8 = j at *
  obtain ⟨I2, b1, b2⟩ := r_spells d L g (ju J 117 68 (lN (uDr x))) A1 hk (show j < 1000 by omega)
  have hi : fT A j = none ↔ sm A 220 0 ≤ j := fTg_iff 220 0 j
  have o2 : ∀ a y, ¬ (a = 134 ∨ a = 135 ∨ (a = 117 ∧ y = 32)) → I2 a y = I a y := by
    intro a y hn
    by_cases e : a = 117
    · subst e; rw [b1.2 y (by omega), a1.2 y (by omega)]
    · rw [b1.1 a (by omega) (by omega) e, a1.1 a (by omega) (by omega) e]
  rcases b2 with ⟨w, c1, c2, c3, c4, c5, c6⟩ | ⟨c1, c2⟩
  · obtain ⟨I', e1, e2, e3⟩ := r_aP_37 d L g (J := ju J 117 68 (lN (uDr x))) c2 w.length 0 I2 o (by omega) c4 c5 (mW_cg hm (o2 _ _ (by omega)) (o2 _ _ (by omega)) (fun y => o2 _ _ (by omega)))
    refine ⟨I', fun a y hn => by rw [e1 a y (by omega), o2 a y (by omega)], by rw [c1]; exact e2, by rw [c1]; exact c3, ?_⟩
    rw [c_TextValuesModel_addsPattern, e_TextValuesModel_addsPattern_0, show (0 : Int32) = nI 0 from rfl, a2, e_TextValuesModel_addsPattern_23, hd, jcI_some, e_TextValuesModel_addsPattern_30, c6, jcI_some, e_TextValuesModel_addsPattern_33, show (0 : Int32) = nI 0 from rfl]
    exact e3
  · have := hi.mp c1
    omega
/-- letters from a row, one by one -/
theorem r_pt_53 {q : Nat → Nat → Nat} {J : Nat → Nat → Int64} {w : List Nat} {k tr off N : Nat} (hk : k < 120) (hw : w.length ≤ 120) (hkd : (q 144 k = 0 ∧ tr = 156 ∧ off = 40 * q 145 k ∧ N = 160) ∨ (q 144 k = 1 ∧ tr = 120 ∧ off = q 145 k ∧ N = 120)) (hN : off + w.length ≤ N) : ∀ m i (I : Nat → Nat → Int32) o, i + m = w.length → I 144 k = nI (q 144 k) → I 145 k = nI (q 145 k) → (∀ x, x < w.length → I tr (off + x) = nI (w.getD x 0)) → mW o I → ∃ I', (∀ a j, ¬ (a = 160 ∨ (a = 117 ∧ (j = 70 ∨ j = 76))) → I' a j = I a j) ∧ mW (uAdL o (w.drop i)) I' ∧ jval (d + 4) 235 53 [.ref 117, .int (nI k), .int (nI w.length), .int (nI i)] [] (jGs L g, I, J) = some (none, (jGs L g, I', J)) := by
  intro m
  induction m with
  | zero =>
    intro i I o hi h144 h145 ht hm
    refine ⟨I, fun _ _ _ => rfl, by rw [List.drop_eq_nil_of_le (by omega)]; exact hm, ?_⟩
    rw [e_TextValuesModel_addsPart_53, jif_t (nI_le (by omega) (by omega))]
  | succ m ih =>
    intro i I o hi h144 h145 ht hm
    obtain ⟨I1, a1, a2, a3⟩ := r_adds (d + 3) L g (J := J) (l := w.getD i 0) hm
    have htr : tr ≠ 160 ∧ tr ≠ 117 := by omega
    obtain ⟨I', b1, b2, b3⟩ := ih (i + 1) I1 _ (by omega) (by rw [a1 _ _ (by omega)]; exact h144) (by rw [a1 _ _ (by omega)]; exact h145) (fun x hx => by rw [a1 _ _ (by omega)]; exact ht x hx) a2
    refine ⟨I', fun a j hx => (b1 a j hx).trans (a1 a j hx), ?_, ?_⟩
    · rw [drop_c (show i < w.length by omega)]
      exact b2
    · have hti := ht i (by omega)
      have jk : jin (nI k) 120 = true := jin_nI (by omega) (by omega)
      rw [e_TextValuesModel_addsPart_53, jif_f (nI_ge (by omega) (by omega)), jk, cond_true, nI_c (by omega), h144, h145]
      rcases hkd with ⟨y1, y2, y3, y4⟩ | ⟨y1, y2, y3, y4⟩
      · subst y2
        rw [jif_t (by rw [y1]; rfl), cond_true, show (40 : Int32) = nI 40 from rfl, nI_mul, nI_add, ← y3, jin_nI (by omega) (by omega), cond_true, nI_c (by omega), hti, e_TextValuesModel_addsPart_100, a3, jcV_some, e_TextValuesModel_addsPart_103, nI_1]
        exact b3
      · subst y2
        rw [jif_f (by rw [y1]; decide), cond_true, nI_add, ← y3, jin_nI (by omega) (by omega), cond_true, nI_c (by omega), hti, e_TextValuesModel_addsPart_100, a3, jcV_some, e_TextValuesModel_addsPart_103, nI_1]
        exact b3
theorem r_addsPart {q : Nat → Nat → Nat} {P : Nat → kA} {V : Nat → List Nat} {I : Nat → Nat → Int32} {J : Nat → Nat → Int64} {k x : Nat} {o : Option (List Nat)} (hD : rD q P I) (hT : uT V 157 156 I) (hk : pOk q k) (hx : x < 2147483648) (hJ : J 117 68 = lN x) (hm : mW o I) : ∃ I', (∀ a j, ¬ (a = 134 ∨ a = 135 ∨ a = 160 ∨ (a = 117 ∧ (j = 32 ∨ j = 70 ∨ j = 76))) → I' a j = I a j) ∧ mW (uAdL o (uPt q P V x k).2) I' ∧ kW (uPt q P V x k).2 ∧ (uPt q P V x k).1 < 2147483648 ∧ ∃ J', (∀ a j, ¬ (a = 117 ∧ j = 68) → J' a j = J a j) ∧ J' 117 68 = lN (uPt q P V x k).1 ∧ jcall (d + 6) 235 [.ref 117, .int (nI k)] (jGs L g, I, J) = some (none, (jGs L g, I', J')) := by
  obtain ⟨hQ, hP, hpb, h0⟩ := hD
  obtain ⟨hk1, hk2⟩ := hk
  have b44 := hpb.2.1
  have b48 := hpb.1
  obtain ⟨p1, p2, p3⟩ := hQ.2.2.2.1 k hk1
  have jk : jin (nI k) 120 = true := jin_nI (by omega) (by omega)
  have ck : (nI k).toNatClampNeg = k := nI_c (by omega)
  rw [c_TextValuesModel_addsPart, e_TextValuesModel_addsPart_0, jk, cond_true, ck, p1, p2, p3]
  unfold uPt
  rcases hk2 with ⟨y1, y2⟩ | ⟨y1, y2⟩ | ⟨y1, y2, y3⟩
  · obtain ⟨t1, t2, t3, t4⟩ := hT _ y2
    obtain ⟨I', c1, c2, c3⟩ := r_pt_53 (d + 1) L g (q := q) (J := J) (w := V (q 145 k)) (k := k) (by omega) (by omega) (Or.inl ⟨y1, rfl, rfl, rfl⟩) (by omega) (V (q 145 k)).length 0 I o (by omega) p1 p2 t4 hm
    rw [if_neg (by omega), if_pos y1]
    refine ⟨I', fun a j hn => c1 a j (by omega), c2, t2, hx, J, fun _ _ _ => rfl, hJ, ?_⟩
    rw [jif_f (by rw [y1]; decide), cond_true, jif_t (by rw [y1]; rfl), cond_true, jin_nI (by omega) (by omega), cond_true, nI_c (by omega), t3, e_TextValuesModel_addsPart_50, show (0 : Int32) = nI 0 from rfl]
    exact c3
  · obtain ⟨I', c1, c2, c3, c4⟩ := r_addsPattern d L g (k := q 145 k) (by omega) (hP _ y2).1 (h0 _ y2) hx hJ hm
    rw [if_pos y1]
    refine ⟨I', c1, c2, c3, uDr_lt x, ju J 117 68 (lN (uDr x)), fun a j hn => ju_ne (by omega), zu_at _ _ _ _, ?_⟩
    rw [jif_t (by rw [y1]; rfl), cond_true, c4, jcV_some, e_TextValuesModel_addsPart_20]
  · have e1 := uLt_len q (q 146 k) (q 145 k)
    obtain ⟨I', c1, c2, c3⟩ := r_pt_53 (d + 1) L g (q := q) (J := J) (w := uLt q (q 145 k) (q 146 k)) (k := k) (by omega) (by omega) (Or.inr ⟨y1, rfl, rfl, rfl⟩) (by omega) (uLt q (q 145 k) (q 146 k)).length 0 I o (by omega) p1 p2 (fun x hx => by rw [e1] at hx; rw [uLt_get q _ _ _ hx]; exact hQ.2.2.2.2 _ (by omega)) hm
    rw [if_neg (by omega), if_neg (by omega)]
    refine ⟨I', fun a j hn => c1 a j (by omega), c2, kW_of (fun x hx => by rw [e1] at hx; rw [uLt_get q _ _ _ hx]; exact y3 x hx), hx, J, fun _ _ _ => rfl, hJ, ?_⟩
    rw [e1] at c3
    rw [jif_f (by rw [y1]; decide), cond_true, jif_f (by rw [y1]; decide), cond_true, e_TextValuesModel_addsPart_50, show (0 : Int32) = nI 0 from rfl]
    exact c3
end MM

/-! ANALYSIS, THE REFERENCE: states are copied, tested, joined -/
set_option maxRecDepth 100000
/-- the state s lies at slot h -/
def rSt (I : Nat → Nat → Int32) (h : Nat) (s : Option yV) : Prop := (s = none ∧ I 151 h = nI 1) ∨ ∃ V, s = some V ∧ I 151 h = nI 0 ∧ ∀ v, v < 4 → mR I (h + v) (V v) ∧ kV (V v)
theorem rSt_cg {I I' : Nat → Nat → Int32} {h : Nat} {s : Option yV} (hs : rSt I h s) (h1 : I' 151 h = I 151 h) (h2 : ∀ v, v < 4 → ∀ c, c < 32 → I' 119 (32 * (h + v) + c) = I 119 (32 * (h + v) + c)) : rSt I' h s := by
  rcases hs with ⟨e1, e2⟩ | ⟨V, e1, e2, e3⟩
  · exact Or.inl ⟨e1, h1.trans e2⟩
  · exact Or.inr ⟨V, e1, h1.trans e2, fun v hv => ⟨mR_cg (e3 v hv).1 (h2 v hv), (e3 v hv).2⟩⟩
theorem kNo_m {A : kA} (hA : kV A) : (nI A.1 = 1 ∧ nI (kEm A.2.1 A.1) = 0) = (A = kNo) := by
  have h10 := hA.2.1
  have hE := kEm_lt10 hA
  apply propext
  constructor
  · rintro ⟨h1, h2⟩
    have e1 : A.1 = 1 := (nI_eq (b := 1) (by omega) (by omega)).mp h1
    have e2 : kEm A.2.1 A.1 = 0 := (nI_eq (b := 0) (by omega) (by omega)).mp h2
    refine kA_ext hA.2.2 ⟨fun q _ => rfl, fun q l _ => rfl⟩ e1 (fun q hq => ?_) (fun q hq l hl => ?_)
    · have hb := kEm_bit A.2.1 q A.1
      rw [e2, Nat.zero_testBit, decide_eq_true hq, Bool.true_and] at hb
      exact hb.symm
    · have := hA.1.1.2 q hq l hl
      show A.2.2 q l = 0
      omega
  · intro e
    subst e
    exact ⟨rfl, rfl⟩
section MM
variable (d L : Nat) (g : jG) {J : Nat → Nat → Int64} {I : Nat → Nat → Int32}
theorem r_isNothing {k : Nat} {A : kA} (h : mR I k A) (hA : kV A) : jcall (d + 2) 167 [.ref 117, .int (nI k)] (jGs L g, I, J) = some (some (.int (bI (jb (A = kNo)))), (jGs L g, I, J)) := by
  rw [s_isNothing d L g I J h.1, h.2.2.2.1, h.2.2.2.2.1, kNo_m hA]
theorem r_copiesAll {a b : Nat} (ha : a < 52) (hb : b < 52) (hab : a + 4 ≤ b ∨ b + 4 ≤ a) : ∃ I', (∀ x j, x ≠ 119 → x ≠ 151 → I' x j = I x j) ∧ (∀ j, ¬ (32 * b ≤ j ∧ j < 32 * b + 128) → I' 119 j = I 119 j) ∧ (∀ j, j ≠ b → I' 151 j = I 151 j) ∧ (∀ s, rSt I a s → rSt I' b s) ∧ jcall (d + 2) 213 [.ref 117, .int (nI a), .int (nI b)] (jGs L g, I, J) = some (none, (jGs L g, I', J)) := by
  generalize h1 : mCp I a b 32 = I1
  generalize h2 : mCp I1 (a + 1) (b + 1) 32 = I2
  generalize h3 : mCp I2 (a + 2) (b + 2) 32 = I3
  generalize h4 : mCp I3 (a + 3) (b + 3) 32 = I4
  have o1 : ∀ j, ¬ (32 * b ≤ j ∧ j < 32 * b + 32) → I1 119 j = I 119 j := fun j hj => by rw [← h1]; exact mCp_out hj
  have o2 : ∀ j, ¬ (32 * (b + 1) ≤ j ∧ j < 32 * (b + 1) + 32) → I2 119 j = I1 119 j := fun j hj => by rw [← h2]; exact mCp_out hj
  have o3 : ∀ j, ¬ (32 * (b + 2) ≤ j ∧ j < 32 * (b + 2) + 32) → I3 119 j = I2 119 j := fun j hj => by rw [← h3]; exact mCp_out hj
  have o4 : ∀ j, ¬ (32 * (b + 3) ≤ j ∧ j < 32 * (b + 3) + 32) → I4 119 j = I3 119 j := fun j hj => by rw [← h4]; exact mCp_out hj
  have n4 : ∀ x, x ≠ 119 → I4 x = I x := fun x hx => by rw [← h4, mCp_n hx, ← h3, mCp_n hx, ← h2, mCp_n hx, ← h1, mCp_n hx]
  have i4 : ∀ v, v < 4 → ∀ c, c < 32 → I4 119 (32 * (b + v) + c) = I 119 (32 * (a + v) + c) := by
    intro v hv c hc
    have hv4 : v = 0 ∨ v = 1 ∨ v = 2 ∨ v = 3 := by omega
    rcases hv4 with e | e | e | e <;> subst e
    · rw [o4 _ (by omega), o3 _ (by omega), o2 _ (by omega), ← h1]; exact mCp_in hc
    · rw [o4 _ (by omega), o3 _ (by omega), ← h2, mCp_in hc]; exact o1 _ (by omega)
    · rw [o4 _ (by omega), ← h3, mCp_in hc, o2 _ (by omega)]; exact o1 _ (by omega)
    · rw [← h4, mCp_in hc, o3 _ (by omega), o2 _ (by omega)]; exact o1 _ (by omega)
  refine ⟨ju I4 151 b (I4 151 a), fun x j y1 y2 => by rw [zu_a y2, n4 x y1], fun j hj => ?_, fun j hj => by rw [zu_k hj, n4 151 (by omega)], fun s hs => ?_, ?_⟩
  · rw [zu_a (by omega), o4 _ (by omega), o3 _ (by omega), o2 _ (by omega), o1 _ (by omega)]
  · rcases hs with ⟨e1, e2⟩ | ⟨V, e1, e2, e3⟩
    · exact Or.inl ⟨e1, by rw [zu_at, n4 151 (by omega)]; exact e2⟩
    · refine Or.inr ⟨V, e1, by rw [zu_at, n4 151 (by omega)]; exact e2, fun v hv => ⟨?_, (e3 v hv).2⟩⟩
      obtain ⟨q1, q2, q3, q4, q5, q6, q7⟩ := (e3 v hv).1
      have z : ∀ c, c < 32 → ju I4 151 b (I4 151 a) 119 (32 * (b + v) + c) = I 119 (32 * (a + v) + c) := fun c hc => by rw [zu_a (by omega)]; exact i4 v hv c hc
      refine ⟨by omega, q2, q3, (z 0 (by omega)).trans q4, (z 1 (by omega)).trans q5, fun r hr l hl => ?_, fun c hc1 hc2 => (z c hc2).trans (q7 c hc1 hc2)⟩
      have := z (2 + 3 * r + l) (by omega)
      rw [show 32 * (b + v) + (2 + 3 * r + l) = 32 * (b + v) + 2 + 3 * r + l by omega, show 32 * (a + v) + (2 + 3 * r + l) = 32 * (a + v) + 2 + 3 * r + l by omega] at this
      exact this.trans (q6 r hr l hl)
  · have st : ∀ v I0, v < 4 → jval (d + 1) 213 2 [.ref 117, .int (nI a), .int (nI b), .int (nI v)] [] (jGs L g, I0, J) = jval (d + 1) 213 2 [.ref 117, .int (nI a), .int (nI b), .int (nI (v + 1))] [] (jGs L g, mCp I0 (a + v) (b + v) 32, J) := by
      intro v I0 hv
      rw [e_TextValuesModel_copiesAll_2, show (4 : Int32) = nI 4 from rfl, jif_f (nI_ge (by omega) (by omega)), nI_add, nI_add, s_copies d L g I0 J (by omega) (by omega), jcV_some, e_TextValuesModel_copiesAll_17, nI_1]
    rw [c_TextValuesModel_copiesAll, e_TextValuesModel_copiesAll_0, show (0 : Int32) = nI 0 from rfl, st 0 I (by omega), show mCp I (a + 0) (b + 0) 32 = I1 from h1, st 1 I1 (by omega), h2, st 2 I2 (by omega), h3, st 3 I3 (by omega), h4, e_TextValuesModel_copiesAll_2, show (4 : Int32) = nI 4 from rfl, jif_t (nI_le (by omega) (by omega)), jin_nI (by omega) (by omega), jin_nI (by omega) (by omega), nI_c (by omega), nI_c (by omega), cond_true, cond_true]
/-- what an operation on the current state may change: scratch, the slots 4 to 7 and from 8 + 8 k on -/
def yX (a j : Nat) : Prop := mSc2 a j ∨ a = 119 ∨ a = 151 ∨ a = 152 ∨ a = 153 ∨ a = 154 ∨ a = 155 ∨ (a = 117 ∧ (j = 55 ∨ j = 63 ∨ j = 64))
def fY (k : Nat) (I I' : Nat → Nat → Int32) : Prop := (∀ a j, ¬ yX a j → I' a j = I a j) ∧ (∀ j, (j < 128 ∨ (256 ≤ j ∧ j < 256 + 256 * k)) → I' 119 j = I 119 j) ∧ (∀ j, 8 ≤ j → j < 8 + 8 * k → I' 151 j = I 151 j) ∧ ∀ j, j < k → I' 152 j = I 152 j
theorem fY_t {k : Nat} {I I1 I2 : Nat → Nat → Int32} (h : fY k I I1) (h' : fY k I1 I2) : fY k I I2 := ⟨fun a j hx => (h'.1 a j hx).trans (h.1 a j hx), fun j hj => (h'.2.1 j hj).trans (h.2.1 j hj), fun j h1 h2 => (h'.2.2.1 j h1 h2).trans (h.2.2.1 j h1 h2), fun j hj => (h'.2.2.2 j hj).trans (h.2.2.2 j hj)⟩
theorem fY_w {k k' : Nat} {I I' : Nat → Nat → Int32} (h : fY k I I') (hk : k' ≤ k) : fY k' I I' := ⟨h.1, fun j hj => h.2.1 j (by omega), fun j h1 h2 => h.2.2.1 j h1 (by omega), fun j hj => h.2.2.2 j (by omega)⟩
theorem fY_r (k : Nat) (I : Nat → Nat → Int32) : fY k I I := ⟨fun _ _ _ => rfl, fun _ _ => rfl, fun _ _ _ => rfl, fun _ _ => rfl⟩
theorem fY_op {I I' : Nat → Nat → Int32} {into : Nat} (h : mOp I I' into) (hi : (4 ≤ into ∧ into < 8) ∨ 48 ≤ into) : fY 5 I I' := by
  have n0 : ∀ a j, a = 151 ∨ a = 152 → ¬ mSc2 a j := fun a j ha hx => by unfold mSc2 mScr at hx; omega
  refine ⟨fun a j hx => h.1 a j (fun e => hx (Or.inl e)) (fun e => hx (Or.inr (Or.inl e))), fun j hj => h.2.1 j (by omega) (by omega), fun j _ _ => h.1 151 j (n0 _ _ (Or.inl rfl)) (by omega), fun j _ => h.1 152 j (n0 _ _ (Or.inr rfl)) (by omega)⟩
/-- CUR under an operation on one of its slots -/
theorem rSt_op {I I' : Nat → Nat → Int32} {v : Nat} {V : yV} {A : kA} (hs : rSt I 4 (some V)) (h : mOp I I' (4 + v)) (hv : v < 4) (hA : mR I' (4 + v) A) (vA : kV A) : rSt I' 4 (some (jup V v A)) := by
  rcases hs with ⟨e1, _⟩ | ⟨V', e1, e2, e3⟩
  · cases e1
  · cases e1
    have n0 : ¬ mSc2 151 4 := fun hx => by unfold mSc2 mScr at hx; omega
    refine Or.inr ⟨_, rfl, (h.1 151 4 n0 (by omega)).trans e2, fun w hw => ?_⟩
    by_cases hwv : w = v
    · rw [hwv, jup_s]; exact ⟨hA, vA⟩
    · rw [jup_n hwv]
      exact ⟨mR_cg (e3 w hw).1 (fun c hc => h.2.1 _ (by omega) (by omega)), (e3 w hw).2⟩
theorem r_asks {m v i : Nat} {V : yV} {P : Nat → kA} (hm : m = 1 ∨ m = 2) (hv : v < 4) (hi : i < 4) (hs : rSt I 4 (some V)) (hP : mR I i (P i)) (h0 : ∀ y, y < 10240 → I 125 y = 0) : ∃ I', fY 5 I I' ∧ (∀ y, y < 10240 → I' 125 y = 0) ∧ (∀ j, I' 117 55 = I 117 55 ∧ I' 117 63 = I 117 63 ∧ I' 117 64 = I 117 64 ∧ I' 153 j = I 153 j ∧ I' 154 j = I 154 j) ∧ rSt I' 4 (yAsk m P V v i) ∧ jcall (d + 10) 215 [.ref 117, .int (nI m), .int (nI v), .int (nI i)] (jGs L g, I, J) = some (none, (jGs L g, I', J)) := by
  have hs0 := hs
  rcases hs with ⟨e1, _⟩ | ⟨V', e1, e2, e3⟩
  · cases e1
  · cases e1
    obtain ⟨I1, a1, a2, a3⟩ := r_pairs d L g (J := J) (m := m) (a := 4 + v) (b := i) (into := 4 + v) (by omega) (e3 v hv).1 hP (by omega) (by omega) (by omega) h0
    have hV : kV (vPair m (V v) (P i)) := vPair_V (e3 v hv).2
    have n0 : ∀ a j, a = 151 ∨ a = 153 ∨ a = 154 ∨ (a = 117 ∧ (j = 55 ∨ j = 63 ∨ j = 64)) → ¬ mSc2 a j := fun a j ha hx => by unfold mSc2 mScr at hx; omega
    have i151 : I1 151 4 = nI 0 := (a1.1 151 4 (n0 _ _ (by omega)) (by omega)).trans e2
    have S1 := rSt_op hs0 a1 hv a2 hV
    have e10 : jcall (d + 10) 215 [.ref 117, .int (nI m), .int (nI v), .int (nI i)] (jGs L g, I, J) = some (none, (jGs L g, ju I1 151 4 (bI (jb (vPair m (V v) (P i) = kNo))), J)) := by
      rw [c_TextValuesModel_asks, e_TextValuesModel_asks_0, show (4 : Int32) = nI 4 from rfl, jin_nI (by omega) (by omega), cond_true, nI_c (by omega), jif_t (show I 151 4 = (0 : Int32) from e2), nI_add, a3, jcV_some, e_TextValuesModel_asks_21, show (4 : Int32) = nI 4 from rfl, nI_add, r_isNothing (d + 7) L g a2 hV, jcI_some, e_TextValuesModel_asks_33]
      by_cases hk : vPair m (V v) (P i) = kNo
      · rw [jb_t.mpr hk, jif_f (by decide), e_TextValuesModel_asks_41, jin_nI (by omega) (by omega), cond_true, nI_c (by omega), e_TextValuesModel_asks_42]
        rfl
      · rw [jb_f.mpr hk, jif_t (by decide), e_TextValuesModel_asks_41, jin_nI (by omega) (by omega), cond_true, nI_c (by omega), e_TextValuesModel_asks_42]
        rfl
    refine ⟨ju I1 151 4 (bI (jb (vPair m (V v) (P i) = kNo))), ?_, fun y hy => by rw [zu_a (by omega)]; exact a1.2.2 y hy, fun j => ⟨?_, ?_, ?_, ?_, ?_⟩, ?_, e10⟩
    · obtain ⟨f1, f2, f3, f4⟩ := fY_op a1 (Or.inl ⟨by omega, by omega⟩)
      exact ⟨fun a j hx => by rw [ju_ne (by unfold yX at hx; omega)]; exact f1 a j hx, fun j hj => by rw [zu_a (by omega)]; exact f2 j hj, fun j y1 y2 => by rw [zu_k (by omega)]; exact f3 j y1 y2, fun j hj => by rw [zu_a (by omega)]; exact f4 j hj⟩
    · rw [zu_a (by omega)]; exact a1.1 _ _ (n0 _ _ (by omega)) (by omega)
    · rw [zu_a (by omega)]; exact a1.1 _ _ (n0 _ _ (by omega)) (by omega)
    · rw [zu_a (by omega)]; exact a1.1 _ _ (n0 _ _ (by omega)) (by omega)
    · rw [zu_a (by omega)]; exact a1.1 _ _ (n0 _ _ (by omega)) (by omega)
    · rw [zu_a (by omega)]; exact a1.1 _ _ (n0 _ _ (by omega)) (by omega)
    · unfold yAsk
      by_cases hk : vPair m (V v) (P i) = kNo
      · rw [jif_t hk, jb_t.mpr hk]
        exact Or.inl ⟨rfl, zu_at _ _ _ _⟩
      · rw [jif_f hk, jb_f.mpr hk]
        exact rSt_cg S1 (by rw [zu_at, i151]; rfl) (fun w hw c hc => by rw [zu_a (by omega)])
end MM

/-! THE REFERENCE: isWithin, common -/
set_option maxRecDepth 100000
/-- what a search over pairs leaves -/
def mOs (I I' : Nat → Nat → Int32) : Prop := (∀ a j, ¬ mSc2 a j → a ≠ 155 → I' a j = I a j) ∧ ∀ y, y < 10240 → I' 125 y = 0
theorem path_ex {T : Nat → Nat} {N : Nat} (h : ∀ i, 0 < i → i < N → ∃ q, q < 3 * N ∧ T q = i ∧ (∀ q', q' < q → T q' ≠ i)) (hg : ∀ i, i < N → i ≤ tM T (3 * i)) (hs : ∀ q, q < 3 * N → T q ≤ tM T q + 1) : ∀ i, i < N → ∃ w, pr T (3 * N) i w ∧ w.length ≤ i ∧ kW w := by
  intro i
  induction i using Nat.strongRecOn with
  | _ i ih =>
    intro hi
    by_cases h0 : i = 0
    · exact ⟨[], h0, by rw [h0]; exact Nat.le_refl _, kW_nil⟩
    · obtain ⟨q, q1, q2, q3⟩ := h i (by omega) hi
      obtain ⟨q', r1, r2⟩ := tM_find (show 0 < i by omega) (3 * i) (fun q hq => hs q (by omega)) (hg i hi)
      have hq : q ≤ q' := by
        apply Classical.byContradiction
        intro hgt
        exact q3 q' (by omega) r2
      obtain ⟨w, w1, w2, w3⟩ := ih (q / 3) (by omega) (by omega)
      exact ⟨q % 3 :: w, ⟨by omega, q, q1, q2, q3, rfl, w1⟩, by rw [List.length_cons]; omega, kW_cons (by omega) w3⟩
theorem vP_100 {A B : kA} {K : Nat → Nat} {N : Nat} (hB : B.1 ≤ 10) (hA : A.1 ≤ 10) (hV : ∀ i, i < N → vP A B (K i)) (hi : ∀ i, i < N → ∀ j, j < N → K i = K j → i = j) : N ≤ 100 := by
  apply Classical.byContradiction
  intro hN
  obtain ⟨i, j, h1, h2, h3⟩ := kPigeon 100 K (fun i hi' => by have := (hV i (by omega)).1; omega)
  have := hi i (by omega) j (by omega) h3
  omega
section MM
variable (d L : Nat) (g : jG) {I : Nat → Nat → Int32} (J : Nat → Nat → Int64)
/-- the search itself -/
theorem r_meetsP {m a b : Nat} {A B : kA} (hm : m < 3) (hA : mR I a A) (hB : mR I b B) (ha : a < 55) (hb : b < 55) (hP : ∀ y, y < 10240 → I 125 y = 0) : ∃ K T N I', mMet (ju (ju (ju I 117 2 (nI m)) 117 3 (nI a)) 117 4 (nI b)) (vP A B) 0 (nxP A B) K T N I' ∧ N ≤ 100 ∧ (∀ d' k, vP A B k → jcall (d' + 6) 179 [.ref 117, .int (nI k)] (jGs L g, I', J) = some (some (.int (bI (enP (mHow m) A B k))), (jGs L g, I', J))) ∧ jcall (d + 7) 181 [.ref 117] (jGs L g, ju (ju (ju I 117 2 (nI m)) 117 3 (nI a)) 117 4 (nI b), J) = some (none, (jGs L g, I', J)) := by
  have hs : ∀ j, ju (ju (ju I 117 2 (nI m)) 117 3 (nI a)) 117 4 (nI b) 119 j = I 119 j := fun j => by
    rw [zu_a (by omega), zu_a (by omega), zu_a (by omega)]
  have hA' := mR_cg (I' := ju (ju (ju I 117 2 (nI m)) 117 3 (nI a)) 117 4 (nI b)) hA (fun c _ => hs _)
  have hB' := mR_cg (I' := ju (ju (ju I 117 2 (nI m)) 117 3 (nI a)) 117 4 (nI b)) hB (fun c _ => hs _)
  have hK := k_pairs (by rw [zu_k (by omega), zu_k (by omega), zu_at]) hm (by rw [zu_k (by omega), zu_at]) (zu_at _ _ _ _) hA' hB' ha hb
  obtain ⟨K, T, N, I', h1, h2⟩ := r_meets d L g J hK (fun y hy => by rw [zu_a (by omega), zu_a (by omega), zu_a (by omega)]; exact hP y hy)
  obtain ⟨m1, m2, m3, m4, m5, m6, m7, m8, m9, m10, m11⟩ := id h1
  exact ⟨K, T, N, I', h1, vP_100 hB.2.1 hA.2.1 (fun i hi => (m5 i hi).1) m6.1, fun d' k hk => (hK.2.2.2 I' m1 d' L g J).2.2 k hk, h2⟩
theorem mOs_of {m a b : Nat} {I' : Nat → Nat → Int32} (h : mEq (ju (ju (ju I 117 2 (nI m)) 117 3 (nI a)) 117 4 (nI b)) I') (hp : ∀ y, y < 10240 → I' 125 y = 0) : mOs I I' := ⟨fun x j hs _ => by
  have hs' := hs
  unfold mSc2 at hs'
  rw [h x j (fun hm => hs (Or.inl hm)), ju_ne (by omega), ju_ne (by omega), ju_ne (by omega)], hp⟩
theorem r_isWithin {a b : Nat} {A B : kA} (hA : mR I a A) (hB : mR I b B) (ha : a < 55) (hb : b < 55) (hP : ∀ y, y < 10240 → I 125 y = 0) : ∃ I' o, mOs I I' ∧ lsP (nxP A B) (enP (mHow 2) A B) 0 o ∧ jcall (d + 8) 196 [.ref 117, .int (nI a), .int (nI b)] (jGs L g, I, J) = some (some (.int (bI o.isNone)), (jGs L g, I', J)) := by
  obtain ⟨K, T, N, I', h1, h100, hend, h2⟩ := r_meetsP d L g J (m := 2) (by omega) hA hB ha hb hP
  obtain ⟨m1, m2, m3, m4, m5, m6, m7, m8, m9, m10, m11⟩ := id h1
  have loop : ∀ f k (c : Bool), k + f = N → (c = true ↔ ∀ i, i < k → enP (mHow 2) A B (K i) = false) → jval (d + 7) 196 24 [.ref 117, jjunk, jjunk, .int (bI c), .int (nI k)] [] (jGs L g, I', J) = some (some (.int (bI (jb (∀ i, i < N → enP (mHow 2) A B (K i) = false)))), (jGs L g, I', J)) := by
    intro f
    induction f with
    | zero =>
      intro k c hk hc
      have : k = N := by omega
      subst this
      have : c = jb (∀ i, i < k → enP (mHow 2) A B (K i) = false) := by rw [Bool.eq_iff_iff, jb_t]; exact hc
      rw [e_TextValuesModel_isWithin_24, m2, jif_t (nI_le (Nat.le_refl _) (by omega)), ← this, bI_01]
    | succ f ih =>
      intro k c hk hc
      have hkey := (m5 k (by omega)).2
      have hen := hend (d + 1) (K k) (m5 k (by omega)).1
      rw [e_TextValuesModel_isWithin_24, m2, jif_f (nI_ge (by omega) (by omega))]
      cases c
      · rw [jif_t (by decide), e_TextValuesModel_isWithin_55, e_TextValuesModel_isWithin_56, nI_1]
        exact ih (k + 1) false (by omega) ⟨fun h => absurd h (by decide), fun h => hc.mpr (fun i hi => h i (by omega))⟩
      · have hc' := hc.mp rfl
        rw [jif_f (by decide), jin_nI (by omega) (by omega), nI_c (by omega), cond_true, hkey, hen, jcI_some, e_TextValuesModel_isWithin_48]
        cases he : enP (mHow 2) A B (K k)
        · rw [jif_t (by decide), e_TextValuesModel_isWithin_56, nI_1]
          refine ih (k + 1) true (by omega) ⟨fun _ i hi => ?_, fun _ => rfl⟩
          by_cases hik : i = k
          · rw [hik]; exact he
          · exact hc' i (by omega)
        · rw [jif_f (by decide), e_TextValuesModel_isWithin_55, e_TextValuesModel_isWithin_56, nI_1]
          refine ih (k + 1) false (by omega) ⟨fun h => absurd h (by decide), fun h => ?_⟩
          have := h k (by omega)
          rw [he] at this
          cases this
  have hfin : jcall (d + 8) 196 [.ref 117, .int (nI a), .int (nI b)] (jGs L g, I, J) = some (some (.int (bI (jb (∀ i, i < N → enP (mHow 2) A B (K i) = false)))), (jGs L g, I', J)) := by
    rw [c_TextValuesModel_isWithin, e_TextValuesModel_isWithin_0, show (2 : Int32) = nI 2 from rfl, h2, jcV_some, e_TextValuesModel_isWithin_19]
    exact loop N 0 true (by omega) ⟨fun _ i hi => absurd hi (by omega), fun _ => rfl⟩
  have hO := mOs_of m1 m9
  by_cases hall : ∀ i, i < N → enP (mHow 2) A B (K i) = false
  · refine ⟨I', none, hO, ⟨K, T, N, 3 * N, m4, m6, fun i hi => m7 i (by omega), Nat.le_refl _, Or.inl ⟨rfl, rfl, hall⟩⟩, ?_⟩
    rw [hfin, jb_t.mpr hall]
    rfl
  · have hex : ∃ i, i < N ∧ enP (mHow 2) A B (K i) = true := by
      apply Classical.byContradiction
      intro hno
      refine hall (fun i hi => ?_)
      cases he : enP (mHow 2) A B (K i) with
      | false => rfl
      | true => exact absurd ⟨i, hi, he⟩ hno
    obtain ⟨i, ⟨i1, i2⟩, i3⟩ := pk_least _ hex
    obtain ⟨w, w1, w2, w3⟩ := path_ex (fun i h1 h2 => by obtain ⟨q, q1, q2, q3, -⟩ := m11 i h1 h2; exact ⟨q, q1, q2, q3⟩) m7 m6.2.2.1 i i1
    refine ⟨I', some w.reverse, hO, ⟨K, T, N, 3 * N, m4, m6, fun i hi => m7 i (by omega), Nat.le_refl _, Or.inr ⟨i, w.reverse, rfl, i1, i2, fun i' hi' => ?_, by rw [List.reverse_reverse]; exact w1⟩⟩, ?_⟩
    · cases he : enP (mHow 2) A B (K i') with
      | false => rfl
      | true => exact absurd ⟨by omega, he⟩ (i3 i' hi')
    · rw [hfin, jb_f.mpr hall]
      rfl
/-- the way back is counted, then written -/
theorem r_com_64 {T : Nat → Nat} {N fd : Nat} {I' : Nat → Nat → Int32} (hN : N ≤ 100) (c0 : I' 129 0 = -1) (m11 : ∀ i, 0 < i → i < N → ∃ q, q < 3 * N ∧ T q = i ∧ (∀ q', q' < q → T q' ≠ i) ∧ I' 129 i = nI (q / 3) ∧ I' 130 i = nI (q % 3)) : ∀ (w : List Nat) (i c : Nat), i < N → pr T (3 * N) i w → w.length ≤ 200 → jval d 219 64 [.ref 117, jjunk, jjunk, .int (nI fd), .int (nI c), .int (nI i), jjunk] [] (jGs L g, I', J) = jval d 219 97 [.ref 117, jjunk, jjunk, jjunk, .int (nI (c + w.length)), .int (nI (c + w.length)), .int (nI fd)] [] (jGs L g, I', J)
  | [], i, c, hi, h, _ => by
    have h0 : i = 0 := h
    subst h0
    rw [e_TextValuesModel_common_64, jin_nI (by omega) (by omega), nI_c (by omega), cond_true, jif_t c0]
    rfl
  | l :: w, i, c, hi, h, hl => by
    obtain ⟨h1, q, q1, q2, q3, q4, q5⟩ := h
    obtain ⟨r, r1, r2, r3, r4, r5⟩ := m11 i h1 hi
    have hqr : q = r := by
      rcases Nat.lt_trichotomy q r with hlt | heq | hgt
      · exact absurd q2 (r3 q hlt)
      · exact heq
      · exact absurd r2 (q3 r hgt)
    subst hqr
    rw [List.length_cons] at hl ⊢
    have hq3 : q / 3 < N := by omega
    have hne : ¬ nI (q / 3) = (-1 : Int32) := by
      rw [show (-1 : Int32) = -nI 1 from rfl, zi_m1e (by omega)]
      exact id
    have ih := r_com_64 (fd := fd) hN c0 m11 w (q / 3) (c + 1) hq3 q5 (by omega)
    rw [show c + 1 + w.length = c + (w.length + 1) by omega] at ih
    rw [e_TextValuesModel_common_64, jin_nI (by omega) (by omega), nI_c (by omega), cond_true, r4, jif_f hne, cond_true, nI_1]
    exact ih
theorem r_com_97 {T : Nat → Nat} {N tot : Nat} (hN : N ≤ 100) : ∀ (w : List Nat) (i : Nat) (I' : Nat → Nat → Int32), i < N → I' 129 0 = -1 → (∀ i, 0 < i → i < N → ∃ q, q < 3 * N ∧ T q = i ∧ (∀ q', q' < q → T q' ≠ i) ∧ I' 129 i = nI (q / 3) ∧ I' 130 i = nI (q % 3)) → pr T (3 * N) i w → w.length ≤ 100 → ∃ I2, (∀ a, a ≠ 155 → I2 a = I' a) ∧ (∀ x, w.length ≤ x → I2 155 x = I' 155 x) ∧ (∀ x, x < w.length → I2 155 x = nI (w.reverse.getD x 0)) ∧ jval d 219 97 [.ref 117, jjunk, jjunk, jjunk, .int (nI tot), .int (nI w.length), .int (nI i)] [] (jGs L g, I', J) = some (some (.int (nI tot)), (jGs L g, I2, J))
  | [], i, I', hi, c0, m11, h, _ => by
    have h0 : i = 0 := h
    subst h0
    refine ⟨I', fun _ _ => rfl, fun _ _ => rfl, fun x hx => absurd hx (by simp), ?_⟩
    rw [e_TextValuesModel_common_97, jin_nI (by omega) (by omega), nI_c (by omega), cond_true, jif_t c0]
  | l :: w, i, I', hi, c0, m11, h, hl => by
    obtain ⟨h1, q, q1, q2, q3, q4, q5⟩ := h
    obtain ⟨r, r1, r2, r3, r4, r5⟩ := m11 i h1 hi
    have hqr : q = r := by
      rcases Nat.lt_trichotomy q r with hlt | heq | hgt
      · exact absurd q2 (r3 q hlt)
      · exact heq
      · exact absurd r2 (q3 r hgt)
    subst hqr
    rw [List.length_cons] at hl
    have hq3 : q / 3 < N := by omega
    have hne : ¬ nI (q / 3) = (-1 : Int32) := by
      rw [show (-1 : Int32) = -nI 1 from rfl, zi_m1e (by omega)]
      exact id
    obtain ⟨I2, a1, a2, a3, a4⟩ := r_com_97 hN w (q / 3) (ju I' 155 w.length (nI (q % 3))) hq3 (by rw [zu_a (by omega)]; exact c0) (fun i h1 h2 => by
      obtain ⟨r, r1, r2, r3, r4, r5⟩ := m11 i h1 h2
      exact ⟨r, r1, r2, r3, by rw [zu_a (by omega)]; exact r4, by rw [zu_a (by omega)]; exact r5⟩) q5 (by omega)
    have hm1 : nI (w.length + 1) + Int32.ofInt (-1) = nI w.length := pk_m1 w.length
    refine ⟨I2, fun a ha => (a1 a ha).trans (ju_n ha), fun x hx => by rw [List.length_cons] at hx; rw [a2 x (by omega), zu_k (by omega)], fun x hx => ?_, ?_⟩
    · rw [List.length_cons] at hx
      rw [List.reverse_cons]
      by_cases hxw : x < w.length
      · rw [a3 x hxw, List.getD_eq_getElem?_getD, List.getD_eq_getElem?_getD, List.getElem?_append_left (by rw [List.length_reverse]; exact hxw)]
      · have : x = w.length := by omega
        subst this
        rw [a2 _ (Nat.le_refl _), zu_at, List.getD_eq_getElem?_getD, List.getElem?_append_right (by rw [List.length_reverse]; exact Nat.le_refl _), List.length_reverse, Nat.sub_self, q4]
        rfl
    · rw [List.length_cons, e_TextValuesModel_common_97, jin_nI (by omega) (by omega), nI_c (by omega), cond_true, r4, jif_f hne, cond_true, hm1, jin_nI (by omega) (by omega), nI_c (by omega), cond_true, cond_true, r5]
      exact a4
theorem r_common {a b : Nat} {A B : kA} (hA : mR I a A) (hB : mR I b B) (ha : a < 55) (hb : b < 55) (hP : ∀ y, y < 10240 → I 125 y = 0) : ∃ I' o, mOs I I' ∧ lsP (nxP A B) (enP (mHow 1) A B) 0 o ∧ ((o = none ∧ jcall (d + 8) 219 [.ref 117, .int (nI a), .int (nI b)] (jGs L g, I, J) = some (some (.int (-1)), (jGs L g, I', J))) ∨ ∃ w, o = some w ∧ w.length < 100 ∧ kW w ∧ (∀ x, x < w.length → I' 155 x = nI (w.getD x 0)) ∧ jcall (d + 8) 219 [.ref 117, .int (nI a), .int (nI b)] (jGs L g, I, J) = some (some (.int (nI w.length)), (jGs L g, I', J))) := by
  obtain ⟨K, T, N, I', h1, h100, hend, h2⟩ := r_meetsP d L g J (m := 1) (by omega) hA hB ha hb hP
  obtain ⟨m1, m2, m3, m4, m5, m6, m7, m8, m9, m10, m11⟩ := id h1
  have hO := mOs_of m1 m9
  have loop : ∀ f k, k + f ≤ N → (∀ i, i < k + f → k ≤ i → enP (mHow 1) A B (K i) = false) → jval (d + 7) 219 21 [.ref 117, jjunk, jjunk, .int (nI k), jjunk, jjunk, jjunk] [] (jGs L g, I', J) = jval (d + 7) 219 21 [.ref 117, jjunk, jjunk, .int (nI (k + f)), jjunk, jjunk, jjunk] [] (jGs L g, I', J) := by
    intro f
    induction f with
    | zero => intro k _ _; rfl
    | succ f ih =>
      intro k hk hno
      have hkey := (m5 k (by omega)).2
      have hen := hend (d + 1) (K k) (m5 k (by omega)).1
      have he := hno k (by omega) (Nat.le_refl _)
      have hi := ih (k + 1) (by omega) (fun i h1 h2 => hno i (by omega) (by omega))
      rw [show k + 1 + f = k + (f + 1) by omega] at hi
      rw [e_TextValuesModel_common_21, m2, jif_f (nI_ge (by omega) (by omega)), jin_nI (by omega) (by omega), nI_c (by omega), cond_true, hkey, hen, jcI_some, e_TextValuesModel_common_39, he, jif_t (by decide), nI_1]
      exact hi
  have start : jcall (d + 8) 219 [.ref 117, .int (nI a), .int (nI b)] (jGs L g, I, J) = jval (d + 7) 219 21 [.ref 117, jjunk, jjunk, .int (nI 0), jjunk, jjunk, jjunk] [] (jGs L g, I', J) := by
    rw [c_TextValuesModel_common, e_TextValuesModel_common_0, show (1 : Int32) = nI 1 from rfl, h2, jcV_some, e_TextValuesModel_common_19]
    rfl
  by_cases hall : ∀ i, i < N → enP (mHow 1) A B (K i) = false
  · refine ⟨I', none, hO, ⟨K, T, N, 3 * N, m4, m6, fun i hi => m7 i (by omega), Nat.le_refl _, Or.inl ⟨rfl, rfl, hall⟩⟩, Or.inl ⟨rfl, ?_⟩⟩
    rw [start, loop N 0 (by omega) (fun i hi _ => hall i (by omega)), Nat.zero_add, e_TextValuesModel_common_21, m2, jif_t (nI_le (Nat.le_refl _) (by omega)), e_TextValuesModel_common_48, m2, jif_t rfl]
  · have hex : ∃ i, i < N ∧ enP (mHow 1) A B (K i) = true := by
      apply Classical.byContradiction
      intro hno
      refine hall (fun i hi => ?_)
      cases he : enP (mHow 1) A B (K i) with
      | false => rfl
      | true => exact absurd ⟨i, hi, he⟩ hno
    obtain ⟨i, ⟨i1, i2⟩, i3⟩ := pk_least _ hex
    have hbef : ∀ i', i' < i → enP (mHow 1) A B (K i') = false := fun i' hi' => by
      cases he : enP (mHow 1) A B (K i') with
      | false => rfl
      | true => exact absurd ⟨by omega, he⟩ (i3 i' hi')
    obtain ⟨w, w1, w2, w3⟩ := path_ex (fun i h1 h2 => by obtain ⟨q, q1, q2, q3, -⟩ := m11 i h1 h2; exact ⟨q, q1, q2, q3⟩) m7 m6.2.2.1 i i1
    obtain ⟨I2, a1, a2, a3, a4⟩ := r_com_97 (d + 7) L g J (T := T) (tot := w.length) h100 w i I' i1 m10 m11 w1 (by omega)
    refine ⟨I2, some w.reverse, ⟨fun x j hs hx => by rw [a1 x hx]; exact hO.1 x j hs hx, fun y hy => by rw [a1 _ (by omega)]; exact hO.2 y hy⟩, ⟨K, T, N, 3 * N, m4, m6, fun i hi => m7 i (by omega), Nat.le_refl _, Or.inr ⟨i, w.reverse, rfl, i1, i2, hbef, by rw [List.reverse_reverse]; exact w1⟩⟩, Or.inr ⟨w.reverse, rfl, by rw [List.length_reverse]; omega, fun x hx => w3 x (List.mem_reverse.mp hx), fun x hx => a3 x (by rw [List.length_reverse] at hx; exact hx), ?_⟩⟩
    have hkey := (m5 i i1).2
    have hen := hend (d + 1) (K i) (m5 i i1).1
    have hne : ¬ nI i = nI N := fun h => by have := (nI_eq (by omega) (by omega)).mp h; omega
    have h64 := r_com_64 (d + 7) L g J (T := T) (fd := i) h100 m10 m11 w i 0 i1 w1 (by omega)
    rw [Nat.zero_add] at h64
    rw [start, loop i 0 (by omega) (fun i' hi' _ => hbef i' (by omega)), Nat.zero_add, e_TextValuesModel_common_21, m2, jif_f (nI_ge (by omega) (by omega)), jin_nI (by omega) (by omega), nI_c (by omega), cond_true, hkey, hen, jcI_some, e_TextValuesModel_common_39, i2, jif_f (by decide), e_TextValuesModel_common_48, m2, jif_f hne, show (0 : Int32) = nI 0 from rfl, h64, List.length_reverse]
    exact a4
end MM

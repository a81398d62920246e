/-! THE REFERENCE: all keys that are met, breadth first -/
set_option maxRecDepth 100000
/-- the places that the search and the sorting use -/
def mScr (a j : Nat) : Prop := a = 124 ∨ a = 125 ∨ a = 126 ∨ a = 127 ∨ a = 128 ∨ a = 129 ∨ a = 130 ∨ a = 131 ∨ a = 132 ∨ a = 133 ∨ (a = 117 ∧ (j = 16 ∨ j = 24 ∨ j = 25 ∨ j = 27)) ∨ (a = 119 ∧ 1760 ≤ j)
/-- all else is as it was -/
def mEq (I I' : Nat → Nat → Int32) : Prop := ∀ a j, ¬ mScr a j → I' a j = I a j
theorem mEq_rfl (I : Nat → Nat → Int32) : mEq I I := fun _ _ _ => rfl
theorem mEq_ju {I0 I : Nat → Nat → Int32} {a k : Nat} {x : Int32} (h : mEq I0 I) (hs : mScr a k) : mEq I0 (ju I a k x) := by
  intro b j hb
  by_cases hba : b = a
  · subst hba
    rw [ju_s]
    by_cases hj : j = k
    · subst hj
      exact absurd hs hb
    · rw [jup_n hj]
      exact h b j hb
  · rw [ju_n hba]
    exact h b j hb
theorem ju_at {α : Type} (f : Nat → Nat → α) (a k : Nat) (x : α) : ju f a k x a k = x := by rw [ju_s, jup_s]
theorem ju_ne {α : Type} {f : Nat → Nat → α} {a k b j : Nat} {x : α} (h : b ≠ a ∨ j ≠ k) : ju f a k x b j = f b j := by
  by_cases hb : b = a
  · subst hb
    rw [ju_s, jup_n (h.resolve_left (fun h => h rfl))]
  · rw [ju_n hb]
/-- a machine of keys, as the reference asks for it: valid keys, the first, the next, the ends -/
def mKM (I0 : Nat → Nat → Int32) (V : Nat → Prop) (k0 : Nat) (nx : Nat → Nat → Nat) (en : Nat → Bool) : Prop :=
  (∀ k, V k → k < 10240) ∧ V k0 ∧ (∀ k l, V k → l < 3 → V (nx k l)) ∧ ∀ I, mEq I0 I → ∀ (d L : Nat) (g : jG) (J : Nat → Nat → Int64),
    jcall (d + 6) 173 [.ref 117] (jGs L g, I, J) = some (some (.int (nI k0)), (jGs L g, I, J)) ∧
    (∀ k l, V k → l < 3 → jcall (d + 6) 178 [.ref 117, .int (nI k), .int (nI l)] (jGs L g, I, J) = some (some (.int (nI (nx k l))), (jGs L g, I, J))) ∧
    ∀ k, V k → jcall (d + 6) 179 [.ref 117, .int (nI k)] (jGs L g, I, J) = some (some (.int (bI (en k))), (jGs L g, I, J))
/-- the highest number among the first p -/
def tM (T : Nat → Nat) : Nat → Nat
  | 0 => 0
  | p + 1 => max (tM T p) (T p)
/-- the search, p places of the rows filled -/
def mBf (I0 : Nat → Nat → Int32) (V : Nat → Prop) (k0 : Nat) (nx : Nat → Nat → Nat) (K T : Nat → Nat) (N p : Nat) (I : Nat → Nat → Int32) : Prop :=
  mEq I0 I ∧ I 117 16 = nI N ∧ K 0 = k0 ∧ (∀ i, i < N → V (K i) ∧ I 124 i = nI (K i)) ∧ (∀ i, i < N → ∀ j, j < N → K i = K j → i = j) ∧ (∀ i, i < N → I 125 (K i) = nI (i + 1)) ∧ (∀ y, y < 10240 → (∀ i, i < N → K i ≠ y) → I 125 y = 0) ∧
  (∀ q, q < p → I 126 q = nI (T q) ∧ K (T q) = nx (K (q / 3)) (q % 3)) ∧ (∀ q, q < p → T q ≤ tM T q + 1) ∧ N = tM T p + 1 ∧
  I 129 0 = -1 ∧ ∀ i, 0 < i → i < N → ∃ q, q < p ∧ T q = i ∧ (∀ q', q' < q → T q' ≠ i) ∧ I 129 i = nI (q / 3) ∧ I 130 i = nI (q % 3)
theorem mBf_N {I0 V k0 nx K T N p I} (hV : ∀ k, V k → k < 10240) (h : mBf I0 V k0 nx K T N p I) : N ≤ 10240 := by
  apply Classical.byContradiction
  intro hN
  obtain ⟨i, j, h1, h2, h3⟩ := kPigeon 10240 K (fun i hi => hV _ (h.2.2.2.1 i (by omega)).1)
  have := h.2.2.2.2.1 i (by omega) j (by omega) h3
  omega
section MM
variable (d L : Nat) (g : jG) {I : Nat → Nat → Int32} (J : Nat → Nat → Int64)
theorem r_placeOf_old {y i : Nat} (hy : y < 10240) (hp : I 125 y = nI (i + 1)) (hi : i < 10240) : jcall (d + 1) 180 [.ref 117, .int (nI y)] (jGs L g, I, J) = some (some (.int (nI i)), (jGs L g, I, J)) := by
  rw [c_TextValuesModel_placeOf, e_TextValuesModel_placeOf_0, jin_nI hy (by omega), nI_c (by omega), hp, jif_f (nI_ne0 (by omega) (by omega)), e_TextValuesModel_placeOf_65, jin_nI hy (by omega), nI_c (by omega), hp, nI_pred]
  rfl
/-- a new key -/
def mNew (I : Nat → Nat → Int32) (y N : Nat) : Nat → Nat → Int32 := ju (ju (ju (ju (ju I 129 N (I 117 24)) 130 N (I 117 25)) 124 N (nI y)) 117 16 (nI (N + 1))) 125 y (nI (N + 1))
theorem r_placeOf_new {y N : Nat} (hy : y < 10240) (hp : I 125 y = 0) (hm : I 117 16 = nI N) (hN : N < 10240) : jcall (d + 1) 180 [.ref 117, .int (nI y)] (jGs L g, I, J) = some (some (.int (nI N)), (jGs L g, mNew I y N, J)) := by
  rw [c_TextValuesModel_placeOf, e_TextValuesModel_placeOf_0, jin_nI hy (by omega), nI_c (by omega), hp, jif_t rfl, hm, jin_nI hN (by omega), nI_c (by omega), nI_1]
  show jval d 180 65 [.ref 117, .int (nI y)] [] (jGs L g, mNew I y N, J) = _
  rw [e_TextValuesModel_placeOf_65, jin_nI hy (by omega), nI_c (by omega), show mNew I y N 125 y = nI (N + 1) from ju_at _ _ _ _, nI_pred]
  rfl
end MM
theorem tM_succ (T : Nat → Nat) (p : Nat) : tM T (p + 1) = max (tM T p) (T p) := rfl
theorem tM_congr {T T' : Nat → Nat} : ∀ p, (∀ q, q < p → T' q = T q) → tM T' p = tM T p
  | 0, _ => rfl
  | p + 1, h => by rw [tM_succ, tM_succ, tM_congr p (fun q hq => h q (by omega)), h p (by omega)]
/-- one more place of the rows: a key that is known -/
theorem mBf_old {I0 V k0 nx K T N p I} {i : Nat} {x : Int32} (h : mBf I0 V k0 nx K T N p I) (hi : i < N) (he : K i = nx (K (p / 3)) (p % 3)) : mBf I0 V k0 nx K (jup T p i) N (p + 1) (ju (ju I 117 25 x) 126 p (nI i)) := by
  obtain ⟨h1, h2, h3, h4, h5, h6, h7, h8, h9, h10, h11, h12⟩ := h
  have hc : tM (jup T p i) p = tM T p := tM_congr p (fun q hq => jup_n (by omega))
  refine ⟨mEq_ju (mEq_ju h1 (by unfold mScr; simp)) (by unfold mScr; simp), ?_, h3, fun j hj => ⟨(h4 j hj).1, ?_⟩, h5, fun j hj => ?_, fun y hy hn => ?_, fun q hq => ?_, fun q hq => ?_, ?_, ?_, fun j hj1 hj2 => ?_⟩
  · rw [ju_ne (Or.inl (by decide)), ju_ne (Or.inr (by decide))]; exact h2
  · rw [ju_ne (Or.inl (by decide)), ju_ne (Or.inl (by decide))]; exact (h4 j hj).2
  · rw [ju_ne (Or.inl (by decide)), ju_ne (Or.inl (by decide))]; exact h6 j hj
  · rw [ju_ne (Or.inl (by decide)), ju_ne (Or.inl (by decide))]; exact h7 y hy hn
  · by_cases hqp : q = p
    · subst hqp
      rw [ju_at, jup_s]
      exact ⟨rfl, he⟩
    · rw [ju_ne (Or.inr hqp), ju_ne (Or.inl (by decide)), jup_n hqp]
      exact h8 q (by omega)
  · have hq' : tM (jup T p i) q = tM T q := tM_congr q (fun q' hq' => jup_n (by omega))
    rw [hq']
    by_cases hqp : q = p
    · subst hqp
      rw [jup_s]
      omega
    · rw [jup_n hqp]
      exact h9 q (by omega)
  · rw [tM_succ, hc, jup_s]
    omega
  · rw [ju_ne (Or.inl (by decide)), ju_ne (Or.inl (by decide))]; exact h11
  · obtain ⟨q, q1, q2, q3, q4, q5⟩ := h12 j hj1 hj2
    refine ⟨q, by omega, by rw [jup_n (by omega)]; exact q2, fun q' hq' => by rw [jup_n (by omega)]; exact q3 q' hq', ?_, ?_⟩
    · rw [ju_ne (Or.inl (by decide)), ju_ne (Or.inl (by decide))]; exact q4
    · rw [ju_ne (Or.inl (by decide)), ju_ne (Or.inl (by decide))]; exact q5
/-- one more place of the rows: a new key -/
theorem mBf_new {I0 V k0 nx K T N p I} {y : Nat} (h : mBf I0 V k0 nx K T N p I) (hV : ∀ k, V k → k < 10240) (hy : V y) (hn : ∀ i, i < N → K i ≠ y) (hp3 : p / 3 < N) (he : y = nx (K (p / 3)) (p % 3)) (hf : I 117 24 = nI (p / 3)) : mBf I0 V k0 nx (jup K N y) (jup T p N) (N + 1) (p + 1) (ju (mNew (ju I 117 25 (nI (p % 3))) y N) 126 p (nI N)) := by
  obtain ⟨h1, h2, h3, h4, h5, h6, h7, h8, h9, h10, h11, h12⟩ := h
  have hc : tM (jup T p N) p = tM T p := tM_congr p (fun q hq => jup_n (by omega))
  have hK : ∀ i, i < N → jup K N y i = K i := fun i hi => jup_n (by omega)
  have hN0 : 0 < N := by omega
  unfold mNew
  refine ⟨mEq_ju (mEq_ju (mEq_ju (mEq_ju (mEq_ju (mEq_ju (mEq_ju h1 (by unfold mScr; simp)) (by unfold mScr; simp)) (by unfold mScr; simp)) (by unfold mScr; simp)) (by unfold mScr; simp)) (by unfold mScr; simp)) (by unfold mScr; simp), ?_, ?_, fun j hj => ?_, fun i hi j hj hij => ?_, fun j hj => ?_, fun z hz hzn => ?_, fun q hq => ?_, fun q hq => ?_, ?_, ?_, fun j hj1 hj2 => ?_⟩
  · rw [ju_ne (Or.inl (by decide)), ju_ne (Or.inl (by decide)), ju_at]
  · rw [hK 0 hN0]; exact h3
  · by_cases hjN : j = N
    · subst hjN
      rw [jup_s, ju_ne (Or.inl (by decide)), ju_ne (Or.inl (by decide)), ju_ne (Or.inl (by decide)), ju_at]
      exact ⟨hy, rfl⟩
    · rw [jup_n hjN, ju_ne (Or.inl (by decide)), ju_ne (Or.inl (by decide)), ju_ne (Or.inl (by decide)), ju_ne (Or.inr hjN), ju_ne (Or.inl (by decide)), ju_ne (Or.inl (by decide)), ju_ne (Or.inl (by decide))]
      exact h4 j (by omega)
  · by_cases hiN : i = N
    · by_cases hjN : j = N
      · omega
      · rw [hiN, jup_s, jup_n hjN] at hij
        exact absurd hij.symm (hn j (by omega))
    · by_cases hjN : j = N
      · rw [hjN, jup_s, jup_n hiN] at hij
        exact absurd hij (hn i (by omega))
      · rw [jup_n hiN, jup_n hjN] at hij
        exact h5 i (by omega) j (by omega) hij
  · by_cases hjN : j = N
    · subst hjN
      rw [jup_s, ju_ne (Or.inl (by decide)), ju_at]
    · have hne : K j ≠ y := hn j (by omega)
      rw [jup_n hjN, ju_ne (Or.inl (by decide)), ju_ne (Or.inr hne), ju_ne (Or.inl (by decide)), ju_ne (Or.inl (by decide)), ju_ne (Or.inl (by decide)), ju_ne (Or.inl (by decide)), ju_ne (Or.inl (by decide))]
      exact h6 j (by omega)
  · have hzy : z ≠ y := fun e => hzn N (by omega) (by rw [jup_s, e])
    rw [ju_ne (Or.inl (by decide)), ju_ne (Or.inr hzy), ju_ne (Or.inl (by decide)), ju_ne (Or.inl (by decide)), ju_ne (Or.inl (by decide)), ju_ne (Or.inl (by decide)), ju_ne (Or.inl (by decide))]
    exact h7 z hz (fun i hi e => hzn i (by omega) (by rw [hK i hi]; exact e))
  · have hTq : ∀ q, q < p → T q < N := fun q hq => by
      have : ∀ p q, q < p → T q ≤ tM T p := by
        intro p
        induction p with
        | zero => intro q hq; omega
        | succ p ih =>
          intro q hq
          rw [tM_succ]
          by_cases hqp : q = p
          · subst hqp; omega
          · have := ih q (by omega); omega
      have := this p q hq
      omega
    by_cases hqp : q = p
    · subst hqp
      rw [ju_at, jup_s, jup_s, hK _ hp3]
      exact ⟨rfl, he⟩
    · have hq2 : q < p := by omega
      have hq3 : q / 3 < N := by omega
      rw [ju_ne (Or.inr hqp), ju_ne (Or.inl (by decide)), ju_ne (Or.inl (by decide)), ju_ne (Or.inl (by decide)), ju_ne (Or.inl (by decide)), ju_ne (Or.inl (by decide)), ju_ne (Or.inl (by decide)), jup_n hqp, hK _ (hTq q hq2), hK _ hq3]
      exact h8 q hq2
  · have hq' : tM (jup T p N) q = tM T q := tM_congr q (fun q' hq' => jup_n (by omega))
    rw [hq']
    by_cases hqp : q = p
    · subst hqp
      rw [jup_s]
      omega
    · rw [jup_n hqp]
      exact h9 q (by omega)
  · rw [tM_succ, hc, jup_s]
    omega
  · rw [ju_ne (Or.inl (by decide)), ju_ne (Or.inl (by decide)), ju_ne (Or.inl (by decide)), ju_ne (Or.inl (by decide)), ju_ne (Or.inl (by decide)), ju_ne (Or.inr (by omega)), ju_ne (Or.inl (by decide))]
    exact h11
  · by_cases hjN : j = N
    · subst hjN
      refine ⟨p, by omega, jup_s _ _ _, fun q' hq' => ?_, ?_, ?_⟩
      · rw [jup_n (by omega)]
        have hT : T q' ≤ tM T p := by
          have : ∀ p q, q < p → T q ≤ tM T p := by
            intro p
            induction p with
            | zero => intro q hq; omega
            | succ p ih =>
              intro q hq
              rw [tM_succ]
              by_cases hqp : q = p
              · subst hqp; omega
              · have := ih q (by omega); omega
          exact this p q' hq'
        omega
      · rw [ju_ne (Or.inl (by decide)), ju_ne (Or.inl (by decide)), ju_ne (Or.inl (by decide)), ju_ne (Or.inl (by decide)), ju_ne (Or.inl (by decide)), ju_at, ju_ne (Or.inr (by decide))]
        exact hf
      · rw [ju_ne (Or.inl (by decide)), ju_ne (Or.inl (by decide)), ju_ne (Or.inl (by decide)), ju_ne (Or.inl (by decide)), ju_at, ju_at]
    · obtain ⟨q, q1, q2, q3, q4, q5⟩ := h12 j hj1 (by omega)
      refine ⟨q, by omega, by rw [jup_n (by omega)]; exact q2, fun q' hq' => by rw [jup_n (by omega)]; exact q3 q' hq', ?_, ?_⟩
      · rw [ju_ne (Or.inl (by decide)), ju_ne (Or.inl (by decide)), ju_ne (Or.inl (by decide)), ju_ne (Or.inl (by decide)), ju_ne (Or.inl (by decide)), ju_ne (Or.inr hjN), ju_ne (Or.inl (by decide))]
        exact q4
      · rw [ju_ne (Or.inl (by decide)), ju_ne (Or.inl (by decide)), ju_ne (Or.inl (by decide)), ju_ne (Or.inl (by decide)), ju_ne (Or.inr hjN), ju_ne (Or.inl (by decide)), ju_ne (Or.inl (by decide))]
        exact q5
section MM
variable (d L : Nat) (g : jG) {I : Nat → Nat → Int32} (J : Nat → Nat → Int64)
/-- one step of the inner loop -/
theorem r_meets_in {I0 V k0 nx en K T N k l} (hM : mKM I0 V k0 nx en) (hB : mBf I0 V k0 nx K T N (3 * k + l) I) (hk : k < N) (hl : l < 3) (hf : I 117 24 = nI k) : ∃ K' T' N' I', N ≤ N' ∧ (∀ q, q < 3 * k + l → T' q = T q) ∧ mBf I0 V k0 nx K' T' N' (3 * k + l + 1) I' ∧ I' 117 24 = nI k ∧ jval (d + 6) 181 41 [.ref 117, jjunk, .int (nI k), .int (nI l)] [] (jGs L g, I, J) = jval (d + 6) 181 41 [.ref 117, jjunk, .int (nI k), .int (nI (l + 1))] [] (jGs L g, I', J) := by
  obtain ⟨hV, -, hVn, hS⟩ := hM
  have hN := mBf_N hV hB
  obtain ⟨h1, h2, h3, h4, h5, h6, h7, h8, h9, h10, h11, h12⟩ := id hB
  have e3 : (3 * k + l) / 3 = k := by omega
  have e4 : (3 * k + l) % 3 = l := by omega
  have hVk := (h4 k hk).1
  have hkey : (ju I 117 25 (nI l)) 124 k = nI (K k) := by rw [ju_ne (Or.inl (by decide))]; exact (h4 k hk).2
  have hkey' : I 124 k = nI (K k) := (h4 k hk).2
  have hVy : V (nx (K k) l) := hVn _ _ hVk hl
  have hy := hV _ hVy
  have hs := (hS (ju I 117 25 (nI l)) (mEq_ju h1 (by unfold mScr; simp)) d L g J).2.1 (K k) l hVk hl
  have start : jval (d + 6) 181 41 [.ref 117, jjunk, .int (nI k), .int (nI l)] [] (jGs L g, I, J) = jval (d + 6) 181 72 [.ref 117, jjunk, .int (nI k), .int (nI l)] [.int (nI (nx (K k) l)), .ref 117, .int (nI (3 * k + l)), .ref 126] (jGs L g, ju I 117 25 (nI l), J) := by
    rw [e_TextValuesModel_meets_41, jif_f (show ¬ (3 : Int32) ≤ nI l from nI_ge (a := l) (b := 3) hl (by omega)), jin_nI (show k < 10240 by omega) (by omega), nI_c (by omega), hkey', cond_true, hs, jcI_some, show (3 : Int32) * nI k = nI (3 * k) from nI_mul 3 k, nI_add]
  rw [start, e_TextValuesModel_meets_72]
  by_cases hex : ∃ i, i < N ∧ K i = nx (K k) l
  · obtain ⟨i, hi, hiK⟩ := hex
    have hp : (ju I 117 25 (nI l)) 125 (nx (K k) l) = nI (i + 1) := by rw [ju_ne (Or.inl (by decide)), ← hiK]; exact h6 i hi
    have hnew := mBf_old (x := nI l) hB hi (by rw [e3, e4]; exact hiK)
    refine ⟨_, _, _, _, Nat.le_refl _, fun q hq => jup_n (by omega), hnew, ?_, ?_⟩
    · rw [ju_ne (Or.inl (by decide)), ju_ne (Or.inr (by decide))]; exact hf
    · rw [r_placeOf_old (d + 5) L g J hy hp (by omega), jcI_some, e_TextValuesModel_meets_75, jin_nI (by omega) (by omega), nI_c (by omega), nI_1, cond_true]
  · have hno : ∀ i, i < N → K i ≠ nx (K k) l := fun i hi e => hex ⟨i, hi, e⟩
    have hp : (ju I 117 25 (nI l)) 125 (nx (K k) l) = 0 := by rw [ju_ne (Or.inl (by decide))]; exact h7 _ hy hno
    have hm : (ju I 117 25 (nI l)) 117 16 = nI N := by rw [ju_ne (Or.inr (by decide))]; exact h2
    have hnew := mBf_new (y := nx (K k) l) hB hV hVy hno (by rw [e3]; exact hk) (by rw [e3, e4]) (by rw [e3]; exact hf)
    rw [e4] at hnew
    have hN2 := mBf_N hV hnew
    refine ⟨_, _, _, _, Nat.le_succ _, fun q hq => jup_n (by omega), hnew, ?_, ?_⟩
    · unfold mNew
      rw [ju_ne (Or.inl (by decide)), ju_ne (Or.inl (by decide)), ju_ne (Or.inr (by decide)), ju_ne (Or.inl (by decide)), ju_ne (Or.inl (by decide)), ju_ne (Or.inl (by decide)), ju_ne (Or.inr (by decide))]
      exact hf
    · rw [r_placeOf_new (d + 5) L g J hy hp hm (by omega), jcI_some, e_TextValuesModel_meets_75, jin_nI (by omega) (by omega), nI_c (by omega), nI_1, cond_true]
end MM

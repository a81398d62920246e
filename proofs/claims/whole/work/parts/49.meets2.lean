/-! THE REFERENCE: meets, whole -/
set_option maxRecDepth 100000
theorem mBf_set {I0 V k0 nx K T N p I I'} (h : mBf I0 V k0 nx K T N p I) (h0 : mEq I0 I') (h1 : I' 117 16 = I 117 16) (h2 : I' 124 = I 124) (h3 : I' 125 = I 125) (h4 : I' 126 = I 126) (h5 : I' 129 = I 129) (h6 : I' 130 = I 130) : mBf I0 V k0 nx K T N p I' := by
  unfold mBf at h ⊢
  rw [h1, h2, h3, h4, h5, h6]
  exact ⟨h0, h.2⟩
section MM
variable (d L : Nat) (g : jG) {I : Nat → Nat → Int32} (J : Nat → Nat → Int64)
theorem r_meets_row {I0 V k0 nx en K T N k} (hM : mKM I0 V k0 nx en) (hB : mBf I0 V k0 nx K T N (3 * k) I) (hk : k < N) (hf : I 117 24 = nI k) : ∃ K' T' N' I', N ≤ N' ∧ (∀ q, q < 3 * k → T' q = T q) ∧ mBf I0 V k0 nx K' T' N' (3 * (k + 1)) I' ∧ jval (d + 6) 181 41 [.ref 117, jjunk, .int (nI k), .int (nI 0)] [] (jGs L g, I, J) = jval (d + 6) 181 26 [.ref 117, jjunk, .int (nI (k + 1)), jjunk] [] (jGs L g, I', J) := by
  obtain ⟨K1, T1, N1, I1, n1, t1, b1, f1, e1⟩ := r_meets_in d L g J (l := 0) hM hB hk (by omega) hf
  obtain ⟨K2, T2, N2, I2, n2, t2, b2, f2, e2⟩ := r_meets_in d L g J (l := 1) hM b1 (by omega) (by omega) f1
  obtain ⟨K3, T3, N3, I3, n3, t3, b3, f3, e3⟩ := r_meets_in d L g J (l := 2) hM b2 (by omega) (by omega) f2
  refine ⟨K3, T3, N3, I3, by omega, fun q hq => ?_, b3, ?_⟩
  · rw [t3 q (by omega), t2 q (by omega), t1 q (by omega)]
  · rw [e1, e2, e3, e_TextValuesModel_meets_41, jif_t (show (3 : Int32) ≤ nI (2 + 1) by decide), nI_1]
theorem r_meets_out {I0 V k0 nx en} (hM : mKM I0 V k0 nx en) : ∀ n k K T N I, 10240 ≤ k + n → k ≤ N → mBf I0 V k0 nx K T N (3 * k) I → (∀ i, i < k → i ≤ tM T (3 * i)) → ∃ K' T' N' I', mBf I0 V k0 nx K' T' N' (3 * N') I' ∧ (∀ i, i < N' → i ≤ tM T' (3 * i)) ∧ jval (d + 6) 181 26 [.ref 117, jjunk, .int (nI k), jjunk] [] (jGs L g, I, J) = jval (d + 6) 181 90 [.ref 117, jjunk, .int (nI 0), jjunk] [] (jGs L g, I', J) := by
  intro n
  induction n with
  | zero =>
    intro k K T N I hn hk hB hg
    have hN := mBf_N hM.1 hB
    have : k = N := by omega
    subst this
    refine ⟨K, T, k, I, hB, hg, ?_⟩
    rw [e_TextValuesModel_meets_26, hB.2.1, jif_t (nI_le (Nat.le_refl _) (by omega))]
    rfl
  | succ n ih =>
    intro k K T N I hn hk hB hg
    have hN := mBf_N hM.1 hB
    by_cases hkN : k = N
    · subst hkN
      refine ⟨K, T, k, I, hB, hg, ?_⟩
      rw [e_TextValuesModel_meets_26, hB.2.1, jif_t (nI_le (Nat.le_refl _) (by omega))]
      rfl
    · have hB1 : mBf I0 V k0 nx K T N (3 * k) (ju I 117 24 (nI k)) := by
        refine mBf_set hB (mEq_ju hB.1 (by unfold mScr; simp)) ?_ (ju_n (by decide)) (ju_n (by decide)) (ju_n (by decide)) (ju_n (by decide)) (ju_n (by decide))
        exact ju_ne (Or.inr (by decide))
      obtain ⟨K', T', N', I', n1, t1, b1, e1⟩ := r_meets_row d L g J hM hB1 (by omega) (ju_at _ _ _ _)
      have hkk : k ≤ tM T (3 * k) := by have := hB.2.2.2.2.2.2.2.2.2.1; omega
      obtain ⟨K2, T2, N2, I2, b2, g2, e2⟩ := ih (k + 1) K' T' N' I' (by omega) (by omega) b1 (fun i hi => by
        rw [tM_congr (3 * i) (fun q hq => t1 q (by omega))]
        by_cases hik : i = k
        · subst hik; exact hkk
        · exact hg i (by omega))
      refine ⟨K2, T2, N2, I2, b2, g2, ?_⟩
      rw [e_TextValuesModel_meets_26, hB.2.1, jif_f (nI_ge (by omega) (by omega)), show (0 : Int32) = nI 0 from rfl, e1, e2]
/-- what meets leaves -/
def mMet (I0 : Nat → Nat → Int32) (V : Nat → Prop) (k0 : Nat) (nx : Nat → Nat → Nat) (K T : Nat → Nat) (N : Nat) (I : Nat → Nat → Int32) : Prop :=
  mEq I0 I ∧ I 117 16 = nI N ∧ N ≤ 10240 ∧ K 0 = k0 ∧ (∀ i, i < N → V (K i) ∧ I 124 i = nI (K i)) ∧ bf nx K T N (3 * N) ∧ (∀ i, i < N → i ≤ tM T (3 * i)) ∧ (∀ q, q < 3 * N → I 126 q = nI (T q)) ∧ (∀ y, y < 10240 → I 125 y = 0) ∧ I 129 0 = -1 ∧ ∀ i, 0 < i → i < N → ∃ q, q < 3 * N ∧ T q = i ∧ (∀ q', q' < q → T q' ≠ i) ∧ I 129 i = nI (q / 3) ∧ I 130 i = nI (q % 3)
theorem r_meets_end {I0 V k0 nx K T N} (hV : ∀ k, V k → k < 10240) : ∀ n j (I : Nat → Nat → Int32), j + n = N → mEq I0 I → I 117 16 = nI N → N ≤ 10240 → K 0 = k0 → (∀ i, i < N → V (K i) ∧ I 124 i = nI (K i)) → bf nx K T N (3 * N) → (∀ i, i < N → i ≤ tM T (3 * i)) → (∀ q, q < 3 * N → I 126 q = nI (T q)) → (∀ y, y < 10240 → (∀ i, i < N → j ≤ i → K i ≠ y) → I 125 y = 0) → I 129 0 = -1 → (∀ i, 0 < i → i < N → ∃ q, q < 3 * N ∧ T q = i ∧ (∀ q', q' < q → T q' ≠ i) ∧ I 129 i = nI (q / 3) ∧ I 130 i = nI (q % 3)) → ∃ I', mMet I0 V k0 nx K T N I' ∧ jval d 181 90 [.ref 117, jjunk, .int (nI j), jjunk] [] (jGs L g, I, J) = some (none, (jGs L g, I', J)) := by
  intro n
  induction n with
  | zero =>
    intro j I hj h1 h2 h3 h4 h5 h6 h7 h8 h9 h10 h11
    refine ⟨I, ⟨h1, h2, h3, h4, h5, h6, h7, h8, fun y hy => h9 y hy (fun i hi hji => by omega), h10, h11⟩, ?_⟩
    rw [e_TextValuesModel_meets_90, h2, jif_t (nI_le (by omega) (by omega))]
  | succ n ih =>
    intro j I hj h1 h2 h3 h4 h5 h6 h7 h8 h9 h10 h11
    have hK := hV _ (h5 j (by omega)).1
    obtain ⟨I', hI', e⟩ := ih (j + 1) (ju I 125 (K j) 0) (by omega) (mEq_ju h1 (by unfold mScr; simp)) (by rw [ju_ne (Or.inl (by decide))]; exact h2) h3 h4 (fun i hi => ⟨(h5 i hi).1, by rw [ju_ne (Or.inl (by decide))]; exact (h5 i hi).2⟩) h6 h7 (fun q hq => by rw [ju_ne (Or.inl (by decide))]; exact h8 q hq) (fun y hy hn => by
        by_cases hyK : y = K j
        · rw [hyK, ju_at]
        · rw [ju_ne (Or.inr hyK)]
          refine h9 y hy (fun i hi hji => ?_)
          by_cases hij : i = j
          · subst hij; exact fun e => hyK e.symm
          · exact hn i hi (by omega)) (by rw [ju_ne (Or.inl (by decide))]; exact h10) (fun i hi1 hi2 => by
        obtain ⟨q, q1, q2, q3, q4, q5⟩ := h11 i hi1 hi2
        exact ⟨q, q1, q2, q3, by rw [ju_ne (Or.inl (by decide))]; exact q4, by rw [ju_ne (Or.inl (by decide))]; exact q5⟩)
    refine ⟨I', hI', ?_⟩
    rw [e_TextValuesModel_meets_90, h2, jif_f (nI_ge (by omega) (by omega)), jin_nI (by omega) (by omega), nI_c (by omega), (h5 j (by omega)).2, jin_nI hK (by omega), nI_c (by omega), nI_1, cond_true, cond_true]
    exact e
theorem r_meets {V k0 nx en} (hM : mKM I V k0 nx en) (hP : ∀ y, y < 10240 → I 125 y = 0) : ∃ K T N I', mMet I V k0 nx K T N I' ∧ jcall (d + 7) 181 [.ref 117] (jGs L g, I, J) = some (none, (jGs L g, I', J)) := by
  have hk0 := hM.1 _ hM.2.1
  have hE : mEq I (ju (ju (ju I 117 16 0) 117 24 (-1)) 117 25 (-1)) := mEq_ju (mEq_ju (mEq_ju (mEq_rfl I) (by unfold mScr; simp)) (by unfold mScr; simp)) (by unfold mScr; simp)
  have hs := (hM.2.2.2 _ hE d L g J).1
  have hp := r_placeOf_new (d + 5) L g J (I := ju (ju (ju I 117 16 0) 117 24 (-1)) 117 25 (-1)) hk0 (N := 0) (by rw [ju_ne (Or.inl (by decide)), ju_ne (Or.inl (by decide)), ju_ne (Or.inl (by decide))]; exact hP _ hk0) (by rw [ju_ne (Or.inr (by decide)), ju_ne (Or.inr (by decide)), ju_at]; rfl) (by omega)
  have hB : mBf I V k0 nx (fun _ => k0) (fun _ => 0) 1 (3 * 0) (mNew (ju (ju (ju I 117 16 0) 117 24 (-1)) 117 25 (-1)) k0 0) := by
    unfold mNew
    refine ⟨mEq_ju (mEq_ju (mEq_ju (mEq_ju (mEq_ju hE (by unfold mScr; simp)) (by unfold mScr; simp)) (by unfold mScr; simp)) (by unfold mScr; simp)) (by unfold mScr; simp), ?_, rfl, fun i hi => ⟨hM.2.1, ?_⟩, fun i hi j hj _ => by omega, fun i hi => ?_, fun y hy hn => ?_, fun q hq => absurd hq (by omega), fun q hq => absurd hq (by omega), rfl, ?_, fun i hi1 hi2 => absurd hi2 (by omega)⟩
    · rw [ju_ne (Or.inl (by decide)), ju_at]
    · have : i = 0 := by omega
      subst this
      rw [ju_ne (Or.inl (by decide)), ju_ne (Or.inl (by decide)), ju_at]
    · have : i = 0 := by omega
      subst this
      rw [ju_at]
    · have hyk : y ≠ k0 := fun e => hn 0 (by omega) e.symm
      rw [ju_ne (Or.inr hyk), ju_ne (Or.inl (by decide)), ju_ne (Or.inl (by decide)), ju_ne (Or.inl (by decide)), ju_ne (Or.inl (by decide)), ju_ne (Or.inl (by decide)), ju_ne (Or.inl (by decide)), ju_ne (Or.inl (by decide))]
      exact hP y hy
    · rw [ju_ne (Or.inl (by decide)), ju_ne (Or.inl (by decide)), ju_ne (Or.inl (by decide)), ju_ne (Or.inl (by decide)), ju_at, ju_ne (Or.inr (by decide)), ju_at]
  obtain ⟨K, T, N, I1, b1, g1, e1⟩ := r_meets_out d L g J hM 10240 0 _ _ 1 _ (by omega) (by omega) hB (fun i hi => absurd hi (by omega))
  have hN := mBf_N hM.1 b1
  obtain ⟨c1, c2, c3, c4, c5, c6, c7, c8, c9, c10, c11, c12⟩ := b1
  obtain ⟨I2, hI2, e2⟩ := r_meets_end (d + 6) L g J (K := K) (T := T) (k0 := k0) (nx := nx) (I0 := I) hM.1 N 0 I1 (by omega) c1 c2 hN c3 c4 ⟨c5, fun q hq => ⟨by have := tM_ge T hq; omega, by omega, (c8 q hq).2⟩, c9, c10⟩ g1 (fun q hq => (c8 q hq).1) (fun y hy hn => c7 y hy (fun i hi => hn i hi (by omega))) c11 c12
  refine ⟨K, T, N, I2, hI2, ?_⟩
  rw [c_TextValuesModel_meets, e_TextValuesModel_meets_0, hs, jcI_some, e_TextValuesModel_meets_20, hp, jcI_some, e_TextValuesModel_meets_23, e1, e2]
end MM

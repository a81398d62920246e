/-! A pattern: the reference's readsPattern from its start; the class's make -/
set_option maxRecDepth 100000
section MM
variable (d L : Nat) (g : jG) {J : Nat → Nat → Int64}
theorem r_cl_17 : ∀ m p (I : Nat → Nat → Int32), p + m = 10 → (∀ x, x < p → I 122 x = nI 0) → ∃ I', (∀ y, y ≠ 122 → I' y = I y) ∧ (∀ x, x < 10 → I' 122 x = nI 0) ∧ jval d 249 17 [.ref 117, .int (nI p), jjunk] [] (jGs L g, I, J) = jval d 249 38 [.ref 117, .int (nI 0), jjunk] [] (jGs L g, I', J) := by
  intro m
  induction m with
  | zero =>
    intro p I hp h
    have : p = 10 := by omega
    subst this
    refine ⟨I, fun _ _ => rfl, h, ?_⟩
    rw [e_TextValuesModel_readsPattern_17, jif_t (by decide)]
    rfl
  | succ m ih =>
    intro p I hp h
    obtain ⟨I', q1, q2, q3⟩ := ih (p + 1) (ju I 122 p (nI 0)) (by omega) (fun x hx => by
      by_cases hxp : x = p
      · rw [hxp, zu_at]
      · rw [zu_k hxp]; exact h x (by omega))
    refine ⟨I', fun y hy => (q1 y hy).trans (ju_n hy), q2, ?_⟩
    rw [← q3, e_TextValuesModel_readsPattern_17, jif_f (show ¬ (10 : Int32) ≤ nI p from nI_ge (a := p) (b := 10) (by omega) (by omega)), jin_nI (by omega) (by omega), nI_c (by omega), cond_true, nI_1]
    rfl
theorem r_cl_38 : ∀ m p (I : Nat → Nat → Int32), p + m = 3 → (∀ x, x < p → I 123 x = nI 0) → ∃ I', (∀ y, y ≠ 123 → I' y = I y) ∧ (∀ x, x < 3 → I' 123 x = nI 0) ∧ jval d 249 38 [.ref 117, .int (nI p), jjunk] [] (jGs L g, I, J) = jcV (jcall d 244 [.ref 117, .int (nI 0)] (jGs L g, I', J)) (fun S1 => jval d 249 63 [.ref 117, .int (nI 0), jjunk] [] S1) := by
  intro m
  induction m with
  | zero =>
    intro p I hp h
    have : p = 3 := by omega
    subst this
    refine ⟨I, fun _ _ => rfl, h, ?_⟩
    rw [e_TextValuesModel_readsPattern_38, jif_t (by decide)]
    rfl
  | succ m ih =>
    intro p I hp h
    obtain ⟨I', q1, q2, q3⟩ := ih (p + 1) (ju I 123 p (nI 0)) (by omega) (fun x hx => by
      by_cases hxp : x = p
      · rw [hxp, zu_at]
      · rw [zu_k hxp]; exact h x (by omega))
    refine ⟨I', fun y hy => (q1 y hy).trans (ju_n hy), q2, ?_⟩
    rw [← q3, e_TextValuesModel_readsPattern_38, jif_f (show ¬ (3 : Int32) ≤ nI p from nI_ge (a := p) (b := 3) (by omega) (by omega)), jin_nI (by omega) (by omega), nI_c (by omega), cond_true, nI_1]
    rfl
theorem r_readsPattern {c : Nat → Nat} {N : Nat} {I : Nat → Nat → Int32} (hN : N ≤ 120) (hc : ∀ i, i < N → c i < 128) (h52 : I 117 52 = nI N) (hs : ∀ j, j < N → I 148 j = nI (c j)) : ∃ I', mPf I I' ∧ ((∃ S', rn c N 0 pS0 = (some S', 0) ∧ pB S' ∧ pFin S' I' ∧ jcall (d + 5) 249 [.ref 117] (jGs L g, I, J) = some (some (.int (nI 1)), (jGs L g, I', J))) ∨ ∃ p, rn c N 0 pS0 = (none, p) ∧ p ≤ N ∧ I' 117 53 = nI p ∧ jcall (d + 5) 249 [.ref 117] (jGs L g, I, J) = some (some (.int (nI 0)), (jGs L g, I', J))) := by
  generalize hI0 : ju (ju (ju I 117 53 (nI 0)) 117 54 (nI 0)) 117 85 (nI 0) = I0
  obtain ⟨I1, b1, b2, b3⟩ := r_cl_17 (d + 4) L g (J := J) 10 0 I0 (by omega) (fun x hx => absurd hx (by omega))
  obtain ⟨I2, e1, e2, e3⟩ := r_cl_38 (d + 4) L g (J := J) 3 0 I1 (by omega) (fun x hx => absurd hx (by omega))
  obtain ⟨I3, o1, o2, o3⟩ := r_opensPattern (d + 2) L g (J := J) (k := 0) (I := I2) (by omega)
  have F : ∀ a j, a ≠ 122 → a ≠ 123 → ¬ (161 ≤ a ∧ a ≤ 166) → I3 a j = I0 a j := fun a j h1 h2 h3 => by rw [o1 a j (by omega), e1 a h2, b1 a h1]
  have hrP : rPS pS0 I3 := by
    refine ⟨fun k hk => ?_, ?_, fun p hp => ?_, fun l hl => ?_⟩
    · have hk0 : k ≤ 0 := hk
      have : k = 0 := by omega
      subst this
      exact o2
    · rw [F _ _ (by omega) (by omega) (by omega), ← hI0, zu_at]; rfl
    · rw [o1 _ _ (by omega), e1 122 (by omega), b2 p hp]; rfl
    · rw [o1 _ _ (by omega), e2 l hl]; rfl
  have hsR : sR c N 0 I3 := ⟨by rw [F _ _ (by omega) (by omega) (by omega), ← hI0, zu_k (by omega), zu_k (by omega), zu_k (by omega)]; exact h52, fun j hj => by rw [F _ _ (by omega) (by omega) (by omega), ← hI0, zu_a (by omega), zu_a (by omega), zu_a (by omega)]; exact hs j hj, by rw [F _ _ (by omega) (by omega) (by omega), ← hI0, zu_k (by omega), zu_k (by omega), zu_at]⟩
  have h54 : I3 117 54 = nI 0 := by rw [F _ _ (by omega) (by omega) (by omega), ← hI0, zu_k (by omega), zu_at]
  obtain ⟨I', a1, a2⟩ := r_rp_63 d L g (J := J) hN hc N 0 pS0 I3 (by omega) (by omega) rfl hrP hsR h54 pB_0 (Nat.le_refl _)
  have start : jcall (d + 5) 249 [.ref 117] (jGs L g, I, J) = jval (d + 4) 249 63 [.ref 117, .int (nI 0), jjunk] [] (jGs L g, I3, J) := by
    rw [c_TextValuesModel_readsPattern, e_TextValuesModel_readsPattern_0, jif_t (Or.inl rfl), show (0 : Int32) = nI 0 from rfl, hI0, b3, e3, o3, jcV_some]
  rw [start]
  exact ⟨I', mPf_t (fun a j hx => by unfold mPx at hx; rw [F a j (by omega) (by omega) (by omega), ← hI0, ju_ne (by omega), ju_ne (by omega), ju_ne (by omega)]) a1, a2⟩
/-- the value of a pattern -/
noncomputable def vP6 (S : pS) : kA := vPat S.2.2.2.2.2.1 S.2.2.2.2.2.2 (orT (S.2.2.1 0) (S.2.2.2.1 0)).2.1 (orT (S.2.2.1 0) (S.2.2.2.1 0)).2.2 (orT (S.2.2.1 0) (S.2.2.2.1 0)).1
theorem r_makesPat {S : pS} {I : Nat → Nat → Int32} {into : Nat} (hB : pB S) (h : pFin S I) (hm : I 117 2 = nI 6) (hP : ∀ y, y < 10240 → I 125 y = 0) (hi : into < 55) : ∃ I', mFm I I' into ∧ mR I' into (vP6 S) ∧ jcall (d + 8) 185 [.ref 117, .int (nI into), .int (-1 : Int32)] (jGs L g, I, J) = some (none, (jGs L g, I', J)) := by
  obtain ⟨h1, h2, h3, h4, h5⟩ := h
  have hlt : 2 ^ S.2.2.2.2.1 ≤ 2 ^ 10 := Nat.pow_le_pow_right (by omega) hB.1
  have hK := k_pattern hm h4 h5 (fun l _ => Nat.lt_of_lt_of_le (hB.2.2.2 l) hlt) h1 h2 h3
  exact r_makes d L g J hK hP hi (Or.inl ⟨rfl, rfl⟩)
end MM
/-- the class's machine for a pattern -/
def fQ (n fi : Nat) (bh ol : Nat → Nat) (q l : Nat) : Nat := (if q < n then bh q else fi) &&& ol l
def eQ (n la : Nat) (em : Bool) : Nat := la ||| (if em then 2 ^ n else 0)
def phQ (n x : Nat) : Nat := if x = 1024 then 2 ^ n else x
theorem fQ_lt {n fi : Nat} {bh ol : Nat → Nat} (hn : n ≤ 10) (ho : ∀ l, ol l < 2 ^ n) (q l : Nat) : fQ n fi bh ol q l < 1048576 := by
  unfold fQ
  have h1 : 2 ^ n ≤ 2 ^ 10 := Nat.pow_le_pow_right (by omega) hn
  have h2 := ho l
  have h3 : (if q < n then bh q else fi) &&& ol l ≤ ol l := Nat.and_le_right
  omega
theorem eQ_lt {n la : Nat} {em : Bool} (hn : n ≤ 10) (hl : la < 2 ^ n) : eQ n la em < 1048576 := by
  have h1 : 2 ^ n ≤ 2 ^ 10 := Nat.pow_le_pow_right (by omega) hn
  refine Nat.or_lt_two_pow (n := 20) (by omega) ?_
  split <;> omega
theorem pow_bit {n q : Nat} : (2 ^ n).testBit q = true ↔ q = n := by
  rw [Nat.testBit_two_pow, decide_eq_true_iff]
  exact ⟨fun h => h.symm, fun h => h.symm⟩
theorem sim_Q {n fi la : Nat} {bh ol : Nat → Nat} {em : Bool} (hn : n ≤ 10) (ho : ∀ l, ol l < 2 ^ n) (hl : la < 2 ^ n) : mSim (n + 1) (n + 1) 0 (eQ n la em) (fQ n fi bh ol) (nxF bh ol fi) (enF la em) 1024 (fun x => x = 1024 ∨ x < 2 ^ n) (phQ n) := by
  have h10 : 2 ^ n ≤ 2 ^ 10 := Nat.pow_le_pow_right (by omega) hn
  have hlt : ∀ x l, nxF bh ol fi x l < 2 ^ n := fun x l => Nat.lt_of_le_of_lt Nat.and_le_right (ho l)
  have hph : ∀ x, x < 2 ^ n → phQ n x = x := fun x hx => by unfold phQ; rw [if_neg (by omega)]
  have h1024 : ∀ r, (1024 : Nat).testBit r = true ↔ r = 10 := fun r => pow_bit (n := 10)
  have hF : ∀ q l j, (fQ n fi bh ol q l).testBit j = true ↔ (if q < n then bh q else fi).testBit j = true ∧ (ol l).testBit j = true := fun q l j => by
    unfold fQ
    rw [Nat.testBit_and, Bool.and_eq_true]
  have hz : ∀ x, x < 2 ^ n → ¬ 0 < x &&& 1024 := fun x hx h => by
    obtain ⟨r, r1, r2⟩ := and_pos_iff.mp h
    have := kbit_lt hx r1
    have := (h1024 r).mp r2
    omega
  have hz2 : 0 < 1024 &&& 1024 := by decide
  refine ⟨Or.inl rfl, fun x l hx _ => ⟨Or.inr (hlt x l), ?_⟩, fun x hx => ⟨?_, ?_⟩, fun x hx => ?_, Or.inl rfl⟩
  · rw [hph _ (hlt x l)]
    apply Nat.eq_of_testBit_eq
    intro j
    rw [Bool.eq_iff_iff]
    unfold nxM nxF
    rw [kNr_bit, Nat.testBit_and, Bool.and_eq_true, Nat.testBit_or, Bool.or_eq_true, kNr_bit]
    rcases hx with hx | hx
    · subst hx
      rw [if_pos hz2]
      constructor
      · rintro ⟨q, q1, q2, q3⟩
        have : q = n := pow_bit.mp q2
        subst this
        have q4 := (hF _ _ _).mp q3
        rw [if_neg (Nat.lt_irrefl _)] at q4
        exact ⟨Or.inl q4.1, q4.2⟩
      · rintro ⟨h1 | ⟨r, r1, r2, r3⟩, h2⟩
        · refine ⟨n, by omega, ?_, (hF _ _ _).mpr ?_⟩
          · show (phQ n 1024).testBit n = true
            exact pow_bit.mpr rfl
          · rw [if_neg (Nat.lt_irrefl _)]; exact ⟨h1, h2⟩
        · have := (h1024 r).mp r2
          omega
    · rw [hph x hx, if_neg (hz x hx)]
      constructor
      · rintro ⟨q, q1, q2, q3⟩
        have hq := kbit_lt hx q2
        have q4 := (hF _ _ _).mp q3
        rw [if_pos hq] at q4
        exact ⟨Or.inr ⟨q, by omega, q2, q4.1⟩, q4.2⟩
      · rintro ⟨h1 | ⟨r, r1, r2, r3⟩, h2⟩
        · rw [Nat.zero_testBit] at h1; cases h1
        · have hr := kbit_lt hx r2
          refine ⟨r, by omega, r2, (hF _ _ _).mpr ?_⟩
          rw [if_pos hr]
          exact ⟨r3, h2⟩
  · rcases hx with hx | hx <;> omega
  · unfold phQ
    split <;> rcases hx with hx | hx <;> omega
  · have hE : ∀ q, (eQ n la em).testBit q = true ↔ la.testBit q = true ∨ (em = true ∧ q = n) := fun q => by
      unfold eQ
      rw [Nat.testBit_or, Bool.or_eq_true]
      cases em
      · rw [if_neg (by decide), Nat.zero_testBit]; simp
      · rw [if_pos rfl, pow_bit]; simp
    unfold enM aK enF
    rw [mHow_0, Bool.eq_iff_iff, Bool.or_eq_true, Bool.or_eq_true, jb_t, jb_t, Bool.and_eq_true, decide_eq_true_iff, decide_eq_true_iff]
    rcases hx with hx | hx
    · subst hx
      constructor
      · rintro (⟨q, q1, q2, q3, q4⟩ | ⟨q, q1, q2, q3, q4⟩)
        · have : q = n := pow_bit.mp q3
          subst this
          have q5 : (eQ q la em).testBit q = true := q4
          rcases (hE q).mp q5 with h | h
          · have := kbit_lt hl h; omega
          · exact Or.inr ⟨hz2, h.1⟩
        · omega
      · rintro (h | h)
        · obtain ⟨r, r1, r2⟩ := and_pos_iff.mp h
          have := (h1024 r).mp r1
          have := kbit_lt hl r2
          omega
        · exact Or.inl ⟨n, by omega, by omega, pow_bit.mpr rfl, (hE n).mpr (Or.inr ⟨h.2, rfl⟩)⟩
    · rw [hph x hx]
      constructor
      · rintro (⟨q, q1, q2, q3, q4⟩ | ⟨q, q1, q2, q3, q4⟩)
        · have hq := kbit_lt hx q3
          have q5 : (eQ n la em).testBit q = true := q4
          rcases (hE q).mp q5 with h | h
          · exact Or.inl (and_pos_iff.mpr ⟨q, q3, h⟩)
          · omega
        · omega
      · rintro (h | h)
        · obtain ⟨r, r1, r2⟩ := and_pos_iff.mp h
          have := kbit_lt hx r1
          exact Or.inl ⟨r, by omega, by omega, r1, (hE r).mpr (Or.inl r2)⟩
        · exact absurd h.1 (hz x hx)

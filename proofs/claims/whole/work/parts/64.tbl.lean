/-! a table of slots with linear search; words that lead to keys -/
set_option maxRecDepth 100000
theorem mod_ne {h i j M : Nat} (h1 : i < j) (h2 : j - i < M) : (h + i) % M ≠ (h + j) % M := by
  intro e
  have := Nat.sub_mod_eq_zero_of_mod_eq e.symm
  rw [show h + j - (h + i) = j - i by omega, Nat.mod_eq_of_lt h2] at this
  omega
/-- N keys in a table of M slots; a value above base is base + 1 + the key's number -/
def tbl (sl : Nat → Int32) (base M N : Nat) (K p h : Nat → Nat) : Prop :=
  (∀ i, i < N → ∀ j, j < N → K i = K j → i = j) ∧ (∀ i, i < N → p i < M ∧ sl (p i) = nI (base + 1 + i)) ∧ (∀ x, x < M → (∃ i, i < N ∧ x = p i) ∨ ∃ v, v ≤ base ∧ sl x = nI v) ∧ ∀ i, i < N → ∃ t, p i = (h (K i) + t) % M ∧ ∀ t', t' < t → ∃ j, j < N ∧ (h (K i) + t') % M = p j
theorem tbl_0 {sl : Nat → Int32} {base M : Nat} {K p h : Nat → Nat} (hs : ∀ x, x < M → ∃ v, v ≤ base ∧ sl x = nI v) : tbl sl base M 0 K p h := ⟨fun i hi => absurd hi (by omega), fun i hi => absurd hi (by omega), fun x hx => Or.inr (hs x hx), fun i hi => absurd hi (by omega)⟩
theorem tbl_p {sl : Nat → Int32} {base M N : Nat} {K p h : Nat → Nat} (hT : tbl sl base M N K p h) (hb : base + N + 1 < 2147483648) {i j : Nat} (hi : i < N) (hj : j < N) (e : p i = p j) : i = j := by
  have h1 := (hT.2.1 i hi).2
  have h2 := (hT.2.1 j hj).2
  rw [e] at h1
  have := (nI_eq (by omega) (by omega)).mp (h1.symm.trans h2)
  omega
theorem tbl_search {sl : Nat → Int32} {base M N : Nat} {K p h : Nat → Nat} (hT : tbl sl base M N K p h) (hb : base + N + 1 < 2147483648) (hM : N < M) (y : Nat) : ∃ t, t ≤ N ∧ (∀ t', t' < t → ∃ j, j < N ∧ (h y + t') % M = p j ∧ K j ≠ y) ∧ ((∃ i, i < N ∧ K i = y ∧ (h y + t) % M = p i) ∨ ((∀ i, i < N → K i ≠ y) ∧ ∃ v, v ≤ base ∧ sl ((h y + t) % M) = nI v)) := by
  have hex : ∃ t, ¬ ∃ j, j < N ∧ (h y + t) % M = p j ∧ K j ≠ y := by
    apply Classical.byContradiction
    intro hno
    have hall : ∀ t, ∃ j, j < N ∧ (h y + t) % M = p j ∧ K j ≠ y := fun t => Classical.byContradiction (fun hc => hno ⟨t, hc⟩)
    obtain ⟨f, hf⟩ := Classical.axiomOfChoice hall
    obtain ⟨i, j, h1, h2, h3⟩ := kPigeon N f (fun i _ => (hf i).1)
    have e1 := (hf i).2.1
    have e2 := (hf j).2.1
    rw [h3] at e1
    exact mod_ne h1 (by omega) (e1.trans e2.symm)
  obtain ⟨t, ht1, ht2⟩ := pk_least _ hex
  have hbef : ∀ t', t' < t → ∃ j, j < N ∧ (h y + t') % M = p j ∧ K j ≠ y := fun t' ht' => Classical.byContradiction (fun hc => ht2 t' ht' hc)
  have htN : t ≤ N := by
    apply Classical.byContradiction
    intro hgt
    have hex' : ∀ t', ∃ j, t' < t → j < N ∧ (h y + t') % M = p j := fun t' => by
      by_cases hh : t' < t
      · obtain ⟨j, j1, j2, j3⟩ := hbef t' hh
        exact ⟨j, fun _ => ⟨j1, j2⟩⟩
      · exact ⟨0, fun h => absurd h hh⟩
    obtain ⟨f, hf⟩ := Classical.axiomOfChoice hex'
    obtain ⟨i, j, h1, h2, h3⟩ := kPigeon N f (fun i hi => (hf i (by omega)).1)
    have e1 := (hf i (by omega)).2
    have e2 := (hf j (by omega)).2
    rw [h3] at e1
    exact mod_ne h1 (by omega) (e1.trans e2.symm)
  refine ⟨t, htN, hbef, ?_⟩
  have hx : (h y + t) % M < M := Nat.mod_lt _ (by omega)
  rcases hT.2.2.1 _ hx with ⟨i, i1, i2⟩ | ⟨v, v1, v2⟩
  · left
    refine ⟨i, i1, ?_, i2⟩
    apply Classical.byContradiction
    intro hne
    exact ht1 ⟨i, i1, i2, hne⟩
  · right
    refine ⟨fun i hi he => ?_, v, v1, v2⟩
    obtain ⟨ti, e1, e2⟩ := hT.2.2.2 i hi
    rw [he] at e1 e2
    rcases Nat.lt_trichotomy ti t with hlt | heq | hgt
    · obtain ⟨j, j1, j2, j3⟩ := hbef ti hlt
      have := tbl_p hT hb hi j1 (e1.trans j2)
      rw [this] at he
      exact j3 he
    · rw [heq] at e1
      have h1 := (hT.2.1 i hi).2
      rw [e1, v2] at h1
      have := (nI_eq (by omega) (by omega)).mp h1
      omega
    · obtain ⟨j, j1, j2⟩ := e2 t hgt
      have h1 := (hT.2.1 j j1).2
      rw [← j2, v2] at h1
      have := (nI_eq (by omega) (by omega)).mp h1
      omega
theorem tbl_new {sl : Nat → Int32} {base M N y t : Nat} {K p h : Nat → Nat} (hT : tbl sl base M N K p h) (hb : base + N + 1 < 2147483648) (hM : 0 < M) (hn : ∀ i, i < N → K i ≠ y) (hbef : ∀ t', t' < t → ∃ j, j < N ∧ (h y + t') % M = p j) (hv : ∃ v, v ≤ base ∧ sl ((h y + t) % M) = nI v) : tbl (jup sl ((h y + t) % M) (nI (base + 1 + N))) base M (N + 1) (jup K N y) (jup p N ((h y + t) % M)) h := by
  obtain ⟨h1, h2, h3, h4⟩ := id hT
  obtain ⟨v, v1, v2⟩ := hv
  have hx : (h y + t) % M < M := Nat.mod_lt _ hM
  have hpx : ∀ i, i < N → p i ≠ (h y + t) % M := fun i hi e => by
    have := (h2 i hi).2
    rw [e, v2] at this
    have := (nI_eq (by omega) (by omega)).mp this
    omega
  refine ⟨fun i hi j hj hij => ?_, fun i hi => ?_, fun x hx' => ?_, fun i hi => ?_⟩
  · by_cases hiN : i = N
    · by_cases hjN : j = N
      · omega
      · rw [hiN, jup_s, jup_n hjN] at hij
        exact absurd hij.symm (hn j (by omega))
    · by_cases hjN : j = N
      · rw [hjN, jup_s, jup_n hiN] at hij
        exact absurd hij (hn i (by omega))
      · rw [jup_n hiN, jup_n hjN] at hij
        exact h1 i (by omega) j (by omega) hij
  · by_cases hiN : i = N
    · rw [hiN, jup_s, jup_s]; exact ⟨hx, rfl⟩
    · rw [jup_n hiN, jup_n (hpx i (by omega))]; exact h2 i (by omega)
  · by_cases hxx : x = (h y + t) % M
    · exact Or.inl ⟨N, by omega, by rw [jup_s]; exact hxx⟩
    · rcases h3 x hx' with ⟨i, i1, i2⟩ | ⟨w, w1, w2⟩
      · exact Or.inl ⟨i, by omega, by rw [jup_n (by omega)]; exact i2⟩
      · exact Or.inr ⟨w, w1, by rw [jup_n hxx]; exact w2⟩
  · by_cases hiN : i = N
    · rw [hiN, jup_s, jup_s]
      refine ⟨t, rfl, fun t' ht' => ?_⟩
      obtain ⟨j, j1, j2⟩ := hbef t' ht'
      exact ⟨j, by omega, by rw [jup_n (by omega)]; exact j2⟩
    · rw [jup_n hiN, jup_n hiN]
      obtain ⟨ti, e1, e2⟩ := h4 i (by omega)
      refine ⟨ti, e1, fun t' ht' => ?_⟩
      obtain ⟨j, j1, j2⟩ := e2 t' ht'
      exact ⟨j, by omega, by rw [jup_n (by omega)]; exact j2⟩
theorem tbl_cg {sl sl' : Nat → Int32} {base M N : Nat} {K K' p h : Nat → Nat} (hT : tbl sl base M N K p h) (hs : ∀ x, x < M → sl' x = sl x) (hK : ∀ i, i < N → K' i = K i) : tbl sl' base M N K' p h := by
  obtain ⟨h1, h2, h3, h4⟩ := hT
  refine ⟨fun i hi j hj hij => h1 i hi j hj (by rw [← hK i hi, ← hK j hj]; exact hij), fun i hi => ?_, fun x hx => ?_, fun i hi => ?_⟩
  · have := h2 i hi
    exact ⟨this.1, by rw [hs _ this.1]; exact this.2⟩
  · rcases h3 x hx with h | ⟨v, v1, v2⟩
    · exact Or.inl h
    · exact Or.inr ⟨v, v1, by rw [hs x hx]; exact v2⟩
  · rw [hK i hi]; exact h4 i hi
/-- where a word leads from a key -/
def kDl (nx : Nat → Nat → Nat) : Nat → List Nat → Nat
  | k, [] => k
  | k, l :: w => kDl nx (nx k l) w
theorem kG_app (nx : Nat → Nat → Nat) (en : Nat → Bool) : ∀ (v w : List Nat) (k : Nat), kG nx en k (v ++ w) = kG nx en (kDl nx k v) w
  | [], _, _ => rfl
  | l :: v, w, k => kG_app nx en v w (nx k l)
theorem kDl_s (nx : Nat → Nat → Nat) : ∀ (v : List Nat) (k l : Nat), kDl nx k (v ++ [l]) = nx (kDl nx k v) l
  | [], _, _ => rfl
  | x :: v, k, l => kDl_s nx v (nx k x) l
/-- ten kinds of keys that differ, and one more -/
theorem kBig_11 {nx : Nat → Nat → Nat} {en : Nat → Bool} {k0 : Nat} (c : Nat → Nat) (hr : ∀ a, a < 11 → ∃ w, kW w ∧ kDl nx k0 w = c a) (hd : ∀ a, a < 11 → ∀ b, b < 11 → a < b → ∃ w, kW w ∧ kG nx en (c a) w ≠ kG nx en (c b) w) : kBig (kG nx en k0) := by
  have hex : ∀ a, ∃ w, a < 11 → kW w ∧ kDl nx k0 w = c a := fun a => by
    by_cases ha : a < 11
    · obtain ⟨w, h⟩ := hr a ha
      exact ⟨w, fun _ => h⟩
    · exact ⟨[], fun h => absurd h ha⟩
  obtain ⟨f, hf⟩ := Classical.axiomOfChoice hex
  refine ⟨f, fun i hi => (hf i hi).1, fun i j hij hj => ?_⟩
  obtain ⟨w, w1, w2⟩ := hd i (by omega) j hj hij
  refine ⟨w, w1, ?_⟩
  rw [kG_app, kG_app, (hf i (by omega)).2, (hf j hj).2]
  exact w2
/-- the hash of a key in a table of 2 ^ k slots -/
def hs (k y : Nat) : Nat := (jsru (nI y * (-1640531535 : Int32)) (nI 8) &&& nI (2 ^ k - 1)).toNatClampNeg
theorem hs_eq {k : Nat} (hk : k ≤ 30) (y : Nat) : jsru (nI y * (-1640531535 : Int32)) (nI 8) &&& nI (2 ^ k - 1) = nI (hs k y) ∧ hs k y < 2 ^ k := by
  have hp : 2 ^ k ≤ 2 ^ 30 := Nat.pow_le_pow_right (by omega) hk
  obtain ⟨j, h1, h2⟩ := pk_andE (jsru (nI y * (-1640531535 : Int32)) (nI 8)) (m := nI (2 ^ k - 1)) k (pk_tn (by omega))
  have h3 : hs k y = j := by unfold hs; rw [h2, nI_clamp (by omega)]
  rw [h3]
  exact ⟨h2, h1⟩
theorem nx_wrap {x k : Nat} : nI (x + 1) &&& nI (2 ^ k - 1) = nI ((x + 1) % 2 ^ k) := by rw [nx_and, Nat.and_two_pow_sub_one_eq_mod]

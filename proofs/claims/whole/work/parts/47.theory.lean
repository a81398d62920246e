/-! numberings by first met; partitions of states; the quotient; values -/
theorem tM_mono (T : Nat → Nat) {p q : Nat} (h : p ≤ q) : tM T p ≤ tM T q := by
  induction h with
  | refl => exact Nat.le_refl _
  | step _ ih => exact Nat.le_trans ih (Nat.le_max_left _ _)
theorem tM_ge (T : Nat → Nat) {p q : Nat} (h : q < p) : T q ≤ tM T p := Nat.le_trans (Nat.le_max_right _ _ : T q ≤ tM T (q + 1)) (tM_mono T h)
/-- n values of f numbered, M numbers, s what each stands for -/
def nmb (f : Nat → Nat) (n M : Nat) (s ν : Nat → Nat) : Prop :=
  (∀ a, a < M → ∀ b, b < M → s a = s b → a = b) ∧ (∀ k, k < n → ν k < M ∧ s (ν k) = f k) ∧ ∀ a, a < M → ∃ k, k < n ∧ ν k = a ∧ ∀ k', k' < k → ν k' < a
theorem nmb_0 (f s ν : Nat → Nat) : nmb f 0 0 s ν := ⟨fun a h => absurd h (by omega), fun a h => absurd h (by omega), fun a h => absurd h (by omega)⟩
theorem nmb_old {f s ν : Nat → Nat} {n M a : Nat} (h : nmb f n M s ν) (ha : a < M) (he : s a = f n) : nmb f (n + 1) M s (jup ν n a) := by
  obtain ⟨h1, h2, h3⟩ := h
  refine ⟨h1, fun k hk => ?_, fun b hb => ?_⟩
  · by_cases hkn : k = n
    · subst hkn; rw [jup_s]; exact ⟨ha, he⟩
    · rw [jup_n hkn]; exact h2 k (by omega)
  · obtain ⟨k, k1, k2, k3⟩ := h3 b hb
    refine ⟨k, by omega, by rw [jup_n (by omega)]; exact k2, fun k' hk' => by rw [jup_n (by omega)]; exact k3 k' hk'⟩
theorem nmb_new {f s ν : Nat → Nat} {n M : Nat} (h : nmb f n M s ν) (hn : ∀ a, a < M → s a ≠ f n) : nmb f (n + 1) (M + 1) (jup s M (f n)) (jup ν n M) := by
  obtain ⟨h1, h2, h3⟩ := h
  refine ⟨fun a ha b hb hab => ?_, fun k hk => ?_, fun b hb => ?_⟩
  · by_cases haM : a = M
    · by_cases hbM : b = M
      · omega
      · rw [haM, jup_s, jup_n hbM] at hab
        exact absurd hab.symm (hn b (by omega))
    · by_cases hbM : b = M
      · rw [hbM, jup_s, jup_n haM] at hab
        exact absurd hab (hn a (by omega))
      · rw [jup_n haM, jup_n hbM] at hab
        exact h1 a (by omega) b (by omega) hab
  · by_cases hkn : k = n
    · subst hkn; rw [jup_s, jup_s]; exact ⟨by omega, rfl⟩
    · have := h2 k (by omega)
      rw [jup_n hkn, jup_n (by omega)]; exact ⟨by omega, this.2⟩
  · by_cases hbM : b = M
    · subst hbM
      refine ⟨n, by omega, jup_s _ _ _, fun k' hk' => ?_⟩
      rw [jup_n (by omega)]
      exact (h2 k' hk').1
    · obtain ⟨k, k1, k2, k3⟩ := h3 b (by omega)
      refine ⟨k, by omega, by rw [jup_n (by omega)]; exact k2, fun k' hk' => by rw [jup_n (by omega)]; exact k3 k' hk'⟩
theorem nmb_iff {f s ν : Nat → Nat} {n M i j : Nat} (h : nmb f n M s ν) (hi : i < n) (hj : j < n) : ν i = ν j ↔ f i = f j := by
  obtain ⟨h1, h2, -⟩ := h
  constructor
  · intro e
    rw [← (h2 i hi).2, ← (h2 j hj).2, e]
  · intro e
    exact h1 _ (h2 i hi).1 _ (h2 j hj).1 (by rw [(h2 i hi).2, (h2 j hj).2, e])
theorem nmb_cg {f f' s s' ν ν' : Nat → Nat} {n M : Nat} (h : nmb f n M s ν) (hf : ∀ k, k < n → f' k = f k) (hs : ∀ a, a < M → s' a = s a) (hν : ∀ k, k < n → ν' k = ν k) : nmb f' n M s' ν' := by
  obtain ⟨h1, h2, h3⟩ := h
  refine ⟨fun a ha b hb hab => h1 a ha b hb (by rw [← hs a ha, ← hs b hb]; exact hab), fun k hk => ?_, fun a ha => ?_⟩
  · have := h2 k hk
    rw [hν k hk, hs _ this.1, hf k hk]; exact this
  · obtain ⟨k, k1, k2, k3⟩ := h3 a ha
    exact ⟨k, k1, by rw [hν k k1]; exact k2, fun k' hk' => by rw [hν k' (by omega)]; exact k3 k' hk'⟩
theorem kSurj (M : Nat) (φ : Nat → Nat) (h : ∀ b, b < M → ∃ a, a < M ∧ φ a = b) : ∀ a, a < M → ∀ a', a' < M → φ a = φ a' → a = a' := by
  intro a ha a' ha' he
  apply Classical.byContradiction
  intro hne
  obtain ⟨m, rfl⟩ : ∃ m, M = m + 1 := ⟨M - 1, by omega⟩
  have hex : ∀ b, ∃ x, b < m + 1 → x < m + 1 ∧ φ x = b ∧ x ≠ a' := by
    intro b
    by_cases hb : b < m + 1
    · obtain ⟨x, hx1, hx2⟩ := h b hb
      by_cases hxa : x = a'
      · exact ⟨a, fun _ => ⟨ha, by rw [he, ← hxa]; exact hx2, hne⟩⟩
      · exact ⟨x, fun _ => ⟨hx1, hx2, hxa⟩⟩
    · exact ⟨0, fun hb' => absurd hb' hb⟩
  obtain ⟨ψ, hψ⟩ := Classical.axiomOfChoice hex
  obtain ⟨i, j, h1, h2, h3⟩ := kPigeon m (fun b => if ψ b < a' then ψ b else ψ b - 1) (fun b hb => by
    obtain ⟨x1, x2, x3⟩ := hψ b hb
    split <;> omega)
  obtain ⟨x1, x2, x3⟩ := hψ i (by omega)
  obtain ⟨y1, y2, y3⟩ := hψ j h2
  have : ψ i = ψ j := by
    split at h3 <;> split at h3 <;> omega
  rw [this] at x2
  omega
/-- as many numbers as before: no class was split -/
theorem nmb_still {f s ν κ : Nat → Nat} {n M : Nat} (h : nmb f n M s ν) (hk : ∀ i, i < n → κ i < M) (hs : ∀ a, a < M → ∃ k, k < n ∧ κ k = a) (hr : ∀ i, i < n → ∀ j, j < n → ν i = ν j → κ i = κ j) : ∀ i, i < n → ∀ j, j < n → κ i = κ j → ν i = ν j := by
  obtain ⟨h1, h2, h3⟩ := h
  have hex : ∀ a, ∃ k, a < M → k < n ∧ ν k = a := fun a => by
    by_cases ha : a < M
    · obtain ⟨k, k1, k2, -⟩ := h3 a ha
      exact ⟨k, fun _ => ⟨k1, k2⟩⟩
    · exact ⟨0, fun h => absurd h ha⟩
  obtain ⟨r, hrp⟩ := Classical.axiomOfChoice hex
  have key := kSurj M (fun a => κ (r a)) (fun b hb => by
    obtain ⟨k, k1, k2⟩ := hs b hb
    have hv := (h2 k k1).1
    obtain ⟨q1, q2⟩ := hrp (ν k) hv
    exact ⟨ν k, hv, by rw [← k2]; exact hr _ q1 _ k1 q2⟩)
  intro i hi j hj hij
  have vi := (h2 i hi).1
  have vj := (h2 j hj).1
  obtain ⟨p1, p2⟩ := hrp (ν i) vi
  obtain ⟨q1, q2⟩ := hrp (ν j) vj
  apply key _ vi _ vj
  show κ (r (ν i)) = κ (r (ν j))
  rw [hr _ p1 _ hi p2, hr _ q1 _ hj q2, hij]
/-- what κ tells apart differs -/
def kFine (B : kA) (κ : Nat → Nat) : Prop := ∀ i, i < B.1 → ∀ j, j < B.1 → κ i ≠ κ j → ∃ w, kW w ∧ kL B i w ≠ kL B j w
theorem kFine_step {B : kA} {κ ν : Nat → Nat} (hB : kWf B) (h : kFine B κ) (hν : ∀ i, i < B.1 → ∀ j, j < B.1 → κ i = κ j → (∀ l, l < 3 → κ (B.2.2 i l) = κ (B.2.2 j l)) → ν i = ν j) : kFine B ν := by
  intro i hi j hj hne
  by_cases h1 : κ i = κ j
  · have : ∃ l, l < 3 ∧ κ (B.2.2 i l) ≠ κ (B.2.2 j l) := by
      apply Classical.byContradiction
      intro hno
      exact hne (hν i hi j hj h1 (fun l hl => Classical.byContradiction (fun e => hno ⟨l, hl, e⟩)))
    obtain ⟨l, hl, hlne⟩ := this
    obtain ⟨w, hw, hwne⟩ := h _ (hB.2 i hi l hl) _ (hB.2 j hj l hl) hlne
    exact ⟨l :: w, kW_cons hl hw, hwne⟩
  · exact h i hi j hj h1
theorem kStable {B : kA} {κ : Nat → Nat} (hB : kWf B) (he : ∀ i, i < B.1 → ∀ j, j < B.1 → κ i = κ j → B.2.1 i = B.2.1 j) (hs : ∀ i, i < B.1 → ∀ j, j < B.1 → κ i = κ j → ∀ l, l < 3 → κ (B.2.2 i l) = κ (B.2.2 j l)) : ∀ (w : List Nat) (i j : Nat), i < B.1 → j < B.1 → kW w → κ i = κ j → kL B i w = kL B j w
  | [], i, j, hi, hj, _, h => he i hi j hj h
  | l :: w, i, j, hi, hj, hw, h => by
    have hl : l < 3 := hw l List.mem_cons_self
    exact kStable hB he hs w _ _ (hB.2 i hi l hl) (hB.2 j hj l hl) (fun x hx => hw x (List.mem_cons_of_mem _ hx)) (hs i hi j hj h l hl)
theorem kReach {A : kA} (hw : kWf A) (hn : kNum A) : ∀ i, i < A.1 → ∃ w, kW w ∧ kD A 0 w = i := by
  intro i
  induction i using Nat.strongRecOn with
  | _ i ih =>
    intro hi
    by_cases h0 : i = 0
    · subst h0
      exact ⟨[], kW_nil, rfl⟩
    · have h1 := hn.2 i hi
      have find : ∀ p, p ≤ 3 * i → i ≤ kM A p → ∃ q, q < p ∧ kS A q = i := by
        intro p
        induction p with
        | zero => intro _ h; have : i ≤ 0 := h; omega
        | succ p ihp =>
          intro hp h
          by_cases h2 : i ≤ kM A p
          · obtain ⟨q, q1, q2⟩ := ihp (by omega) h2
            exact ⟨q, by omega, q2⟩
          · have h3 : i ≤ max (kM A p) (kS A p) := h
            have h4 := hn.1 p (by omega)
            exact ⟨p, by omega, by omega⟩
      obtain ⟨q, q1, q2⟩ := find (3 * i) (Nat.le_refl _) h1
      obtain ⟨w, w1, w2⟩ := ih (q / 3) (by omega) (by omega)
      refine ⟨w ++ [q % 3], kW_app w1 (kW_cons (by omega) kW_nil), ?_⟩
      have happ : ∀ (v : List Nat) (x l : Nat), kD A x (v ++ [l]) = A.2.2 (kD A x v) l := by
        intro v
        induction v with
        | nil => intro x l; rfl
        | cons y v ihv => intro x l; exact ihv _ l
      rw [happ, w2]
      exact q2
/-- nothing behind the last state -/
def kNm (A : kA) : Prop := (∀ q, A.1 ≤ q → A.2.1 q = false) ∧ ∀ q l, A.1 ≤ q ∨ 3 ≤ l → A.2.2 q l = 0
/-- a value: a canonical automaton of ten states at most -/
def kV (A : kA) : Prop := kC A ∧ A.1 ≤ 10 ∧ kNm A
def kTr (A : kA) : kA := (A.1, fun q => if q < A.1 then A.2.1 q else false, fun q l => if q < A.1 ∧ l < 3 then A.2.2 q l else 0)
theorem kA_ext {A B : kA} (hA : kNm A) (hB : kNm B) (h1 : A.1 = B.1) (h2 : ∀ q, q < A.1 → A.2.1 q = B.2.1 q) (h3 : ∀ q, q < A.1 → ∀ l, l < 3 → A.2.2 q l = B.2.2 q l) : A = B := by
  apply Prod.ext h1
  apply Prod.ext
  · funext q
    by_cases hq : q < A.1
    · exact h2 q hq
    · rw [hA.1 q (by omega), hB.1 q (by omega)]
  · funext q l
    by_cases hq : q < A.1 ∧ l < 3
    · exact h3 q hq.1 l hq.2
    · rw [hA.2 q l (by omega), hB.2 q l (by omega)]
theorem kV_eq {A B : kA} (hA : kV A) (hB : kV B) (h : kSame A 0 B 0) : A = B := by
  obtain ⟨e1, e2, e3⟩ := kC_one hA.1 hB.1 h
  exact kA_ext hA.2.2 hB.2.2 e1 e2 e3
/-- the value of a set of texts, if ten states are enough -/
noncomputable def kMk (G : List Nat → Bool) : Option kA := @dite _ (∃ A, kV A ∧ ∀ w, kW w → kL A 0 w = G w) (Classical.propDecidable _) (fun h => some (Classical.choose h)) (fun _ => none)
theorem kMk_some {A : kA} {G : List Nat → Bool} (hA : kV A) (h : ∀ w, kW w → kL A 0 w = G w) : kMk G = some A := by
  unfold kMk
  have hex : ∃ A, kV A ∧ ∀ w, kW w → kL A 0 w = G w := ⟨A, hA, h⟩
  rw [dif_pos hex]
  have hc := Classical.choose_spec hex
  rw [kV_eq hc.1 hA (fun w hw => (hc.2 w hw).trans (h w hw).symm)]
theorem kMk_none {G : List Nat → Bool} (h : kBig G) : kMk G = none := by
  unfold kMk
  rw [dif_neg]
  rintro ⟨A, hA, hw⟩
  exact kC_small hA.1.1 hA.2.1 (kBig_congr (fun w hw' => (hw w hw').symm) h)
theorem kMk_cg {G G' : List Nat → Bool} (h : ∀ w, kW w → G w = G' w) : kMk G = kMk G' := by
  unfold kMk
  have : (∃ A, kV A ∧ ∀ w, kW w → kL A 0 w = G w) = (∃ A, kV A ∧ ∀ w, kW w → kL A 0 w = G' w) := by
    apply propext
    constructor
    · rintro ⟨A, hA, hw⟩; exact ⟨A, hA, fun w hw' => (hw w hw').trans (h w hw')⟩
    · rintro ⟨A, hA, hw⟩; exact ⟨A, hA, fun w hw' => (hw w hw').trans (h w hw').symm⟩
  by_cases hx : ∃ A, kV A ∧ ∀ w, kW w → kL A 0 w = G w
  · obtain ⟨A, hA, hw⟩ := hx
    have a1 : kMk G = some A := kMk_some hA hw
    have a2 : kMk G' = some A := kMk_some hA (fun w hw' => (hw w hw').trans (h w hw'))
    unfold kMk at a1 a2
    rw [a1, a2]
  · have hx' : ¬ ∃ A, kV A ∧ ∀ w, kW w → kL A 0 w = G' w := by rw [← this]; exact hx
    rw [dif_neg hx, dif_neg hx']
theorem kMk_V {A : kA} {G : List Nat → Bool} (h : kMk G = some A) : kV A ∧ ∀ w, kW w → kL A 0 w = G w := by
  unfold kMk at h
  by_cases hx : ∃ A, kV A ∧ ∀ w, kW w → kL A 0 w = G w
  · rw [dif_pos hx] at h
    have := Classical.choose_spec hx
    rw [Option.some.inj h] at this
    exact this
  · rw [dif_neg hx] at h
    cases h
/-- the breadth first search: N keys known, p places of the rows filled -/
def bf (nx : Nat → Nat → Nat) (K T : Nat → Nat) (N p : Nat) : Prop :=
  (∀ i, i < N → ∀ j, j < N → K i = K j → i = j) ∧ (∀ q, q < p → T q < N ∧ q / 3 < N ∧ K (T q) = nx (K (q / 3)) (q % 3)) ∧ (∀ q, q < p → T q ≤ tM T q + 1) ∧ N = tM T p + 1
theorem bf_0 (nx : Nat → Nat → Nat) (K T : Nat → Nat) : bf nx K T 1 0 := ⟨fun i hi j hj _ => by omega, fun q hq => absurd hq (by omega), fun q hq => absurd hq (by omega), rfl⟩
theorem bf_old {nx K T N p i} (h : bf nx K T N p) (hp : p / 3 < N) (hi : i < N) (he : K i = nx (K (p / 3)) (p % 3)) : bf nx K (jup T p i) N (p + 1) := by
  obtain ⟨h1, h2, h3, h4⟩ := h
  have hc : ∀ q, q ≤ p → tM (jup T p i) q = tM T q := fun q hq => tM_congr q (fun q' hq' => jup_n (by omega))
  refine ⟨h1, fun q hq => ?_, fun q hq => ?_, ?_⟩
  · by_cases hqp : q = p
    · subst hqp; rw [jup_s]; exact ⟨hi, hp, he⟩
    · rw [jup_n hqp]; exact h2 q (by omega)
  · rw [hc q (by omega)]
    by_cases hqp : q = p
    · subst hqp; rw [jup_s]; omega
    · rw [jup_n hqp]; exact h3 q (by omega)
  · rw [tM_succ, hc p (Nat.le_refl _), jup_s]; omega
theorem bf_new {nx K T N p} (h : bf nx K T N p) (hp : p / 3 < N) (hn : ∀ i, i < N → K i ≠ nx (K (p / 3)) (p % 3)) : bf nx (jup K N (nx (K (p / 3)) (p % 3))) (jup T p N) (N + 1) (p + 1) := by
  obtain ⟨h1, h2, h3, h4⟩ := h
  have hc : ∀ q, q ≤ p → tM (jup T p N) q = tM T q := fun q hq => tM_congr q (fun q' hq' => jup_n (by omega))
  refine ⟨fun i hi j hj hij => ?_, fun q hq => ?_, fun q hq => ?_, ?_⟩
  · by_cases hiN : i = N
    · by_cases hjN : j = N
      · omega
      · rw [hiN, jup_s, jup_n hjN] at hij
        exact absurd hij.symm (hn j (by omega))
    · by_cases hjN : j = N
      · rw [hjN, jup_s, jup_n hiN] at hij
        exact absurd hij (hn i (by omega))
      · rw [jup_n hiN, jup_n hjN] at hij
        exact h1 i (by omega) j (by omega) hij
  · by_cases hqp : q = p
    · subst hqp
      rw [jup_s, jup_s, jup_n (show q / 3 ≠ N by omega)]
      exact ⟨by omega, by omega, rfl⟩
    · obtain ⟨a1, a2, a3⟩ := h2 q (by omega)
      rw [jup_n hqp, jup_n (show T q ≠ N by omega), jup_n (show q / 3 ≠ N by omega)]
      exact ⟨by omega, by omega, a3⟩
  · rw [hc q (by omega)]
    by_cases hqp : q = p
    · subst hqp; rw [jup_s]; omega
    · rw [jup_n hqp]; exact h3 q (by omega)
  · rw [tM_succ, hc p (Nat.le_refl _), jup_s]; omega
/-- the machine that was found -/
def bA (N : Nat) (e : Nat → Bool) (T : Nat → Nat) : kA := (N, fun q => if q < N then e q else false, fun q l => if q < N ∧ l < 3 then T (3 * q + l) else 0)
theorem bA_S {N e T p} (hp : p < 3 * N) : kS (bA N e T) p = T p := by
  show (if p / 3 < N ∧ p % 3 < 3 then T (3 * (p / 3) + p % 3) else 0) = T p
  rw [if_pos (by omega), show 3 * (p / 3) + p % 3 = p by omega]
theorem bA_M {N e T} : ∀ p, p ≤ 3 * N → kM (bA N e T) p = tM T p
  | 0, _ => rfl
  | p + 1, h => by
    show max (kM (bA N e T) p) (kS (bA N e T) p) = max (tM T p) (T p)
    rw [bA_M p (by omega), bA_S (by omega)]
theorem bA_wf {nx K T N e} (h : bf nx K T N (3 * N)) : kWf (bA N e T) := by
  obtain ⟨h1, h2, h3, h4⟩ := h
  refine ⟨by show 0 < N; omega, fun q hq l hl => ?_⟩
  have hq' : q < N := hq
  show (if q < N ∧ l < 3 then T (3 * q + l) else 0) < N
  rw [if_pos ⟨hq', hl⟩]
  exact (h2 (3 * q + l) (by omega)).1
theorem bA_num {nx K T N e} (h : bf nx K T N (3 * N)) (hg : ∀ i, i < N → i ≤ tM T (3 * i)) : kNum (bA N e T) := by
  obtain ⟨h1, h2, h3, h4⟩ := h
  refine ⟨fun p hp => ?_, fun i hi => ?_⟩
  · have hp' : p < 3 * N := hp
    rw [bA_S hp', bA_M p (by omega)]
    exact h3 p hp'
  · have hi' : i < N := hi
    rw [bA_M _ (by omega)]
    exact hg i hi'
theorem bA_nm {N e T} : kNm (bA N e T) := ⟨fun q hq => if_neg (show ¬ q < N by have : N ≤ q := hq; omega), fun q l h => if_neg (show ¬ (q < N ∧ l < 3) by have : N ≤ q ∨ 3 ≤ l := h; omega)⟩
/-- what a machine of keys takes -/
def kG (nx : Nat → Nat → Nat) (en : Nat → Bool) : Nat → List Nat → Bool
  | k, [] => en k
  | k, l :: w => kG nx en (nx k l) w
theorem bA_L {nx K T N e} {en : Nat → Bool} (h : bf nx K T N (3 * N)) (he : ∀ i, i < N → e i = en (K i)) : ∀ (w : List Nat) (i : Nat), i < N → kW w → kL (bA N e T) i w = kG nx en (K i) w
  | [], i, hi, _ => by
    show (if i < N then e i else false) = en (K i)
    rw [if_pos hi]; exact he i hi
  | l :: w, i, hi, hw => by
    have hl : l < 3 := hw l List.mem_cons_self
    obtain ⟨a1, a2, a3⟩ := h.2.1 (3 * i + l) (by omega)
    have e1 : (3 * i + l) / 3 = i := by omega
    have e2 : (3 * i + l) % 3 = l := by omega
    rw [e1, e2] at a3
    show kL (bA N e T) (if i < N ∧ l < 3 then T (3 * i + l) else 0) w = kG nx en (nx (K i) l) w
    rw [if_pos ⟨hi, hl⟩, bA_L h he w _ a1 (fun x hx => hw x (List.mem_cons_of_mem _ hx)), a3]
theorem kG_sim {nx nx' : Nat → Nat → Nat} {en en' : Nat → Bool} {R : Nat → Nat → Prop} (hs : ∀ a b l, R a b → l < 3 → R (nx a l) (nx' b l)) (he : ∀ a b, R a b → en a = en' b) : ∀ (w : List Nat) (a b : Nat), R a b → kW w → kG nx en a w = kG nx' en' b w
  | [], a, b, h, _ => he a b h
  | l :: w, a, b, h, hw => kG_sim hs he w _ _ (hs a b l h (hw l List.mem_cons_self)) (fun x hx => hw x (List.mem_cons_of_mem _ hx))
/-- eleven classes: too many -/
theorem kBig_cls {B : kA} (hw : kWf B) (hn : kNum B) {κ : Nat → Nat} (hf : kFine B κ) (c : Nat → Nat) (hc : ∀ a, a < 11 → c a < B.1) (hd : ∀ a, a < 11 → ∀ b, b < 11 → κ (c a) = κ (c b) → a = b) : kBig (kL B 0) := by
  have hex : ∀ a, ∃ w, a < 11 → kW w ∧ kD B 0 w = c a := fun a => by
    by_cases ha : a < 11
    · obtain ⟨w, w1, w2⟩ := kReach hw hn (c a) (hc a ha)
      exact ⟨w, fun _ => ⟨w1, w2⟩⟩
    · exact ⟨[], fun h => absurd h ha⟩
  obtain ⟨f, hfp⟩ := Classical.axiomOfChoice hex
  refine kBig_of f (fun i hi => (hfp i hi).1) (fun i j hij hj => ?_)
  rw [(hfp i (by omega)).2, (hfp j hj).2]
  exact hf _ (hc i (by omega)) _ (hc j hj) (fun e => by have := hd i (by omega) j hj e; omega)
/-- the quotient's search finds the value -/
theorem kQuot {B : kA} (hB : kWf B) {κ : Nat → Nat} (hf : kFine B κ) (hs : ∀ i, i < B.1 → ∀ j, j < B.1 → κ i = κ j → kSame B i B j) {nx : Nat → Nat → Nat} {mem T : Nat → Nat} {n : Nat} (hn10 : n ≤ 10) (hm0 : mem 0 = 0) (hm : ∀ r, r < n → mem r < B.1) (hnx : ∀ r, r < n → ∀ l, l < 3 → nx (κ (mem r)) l = κ (B.2.2 (mem r) l)) (h : bf nx (fun r => κ (mem r)) T n (3 * n)) (hg : ∀ i, i < n → i ≤ tM T (3 * i)) :
    kV (bA n (fun r => B.2.1 (mem r)) T) ∧ ∀ w, kW w → kL (bA n (fun r => B.2.1 (mem r)) T) 0 w = kL B 0 w := by
  have hL : ∀ (w : List Nat) (r : Nat), r < n → kW w → kL (bA n (fun r => B.2.1 (mem r)) T) r w = kL B (mem r) w := by
    intro w
    induction w with
    | nil => intro r hr _; show (if r < n then B.2.1 (mem r) else false) = _; rw [if_pos hr]; rfl
    | cons l w ih =>
      intro r hr hw
      have hl : l < 3 := hw l List.mem_cons_self
      have hw' : kW w := fun x hx => hw x (List.mem_cons_of_mem _ hx)
      obtain ⟨a1, a2, a3⟩ := h.2.1 (3 * r + l) (by omega)
      rw [show (3 * r + l) / 3 = r by omega, show (3 * r + l) % 3 = l by omega] at a3
      show kL _ (if r < n ∧ l < 3 then T (3 * r + l) else 0) w = kL B (B.2.2 (mem r) l) w
      rw [if_pos ⟨hr, hl⟩, ih _ a1 hw']
      refine hs _ (hm _ a1) _ (hB.2 _ (hm r hr) l hl) ?_ w hw'
      have a4 : κ (mem (T (3 * r + l))) = nx (κ (mem r)) l := a3
      rw [a4, hnx r hr l hl]
  have h0 : 0 < n := by have := h.2.2.2; omega
  refine ⟨⟨⟨bA_wf h, fun i hi j hj he => ?_, bA_num h hg⟩, hn10, bA_nm⟩, fun w hw => by rw [hL w 0 h0 hw, hm0]⟩
  have hi' : i < n := hi
  have hj' : j < n := hj
  apply Classical.byContradiction
  intro hne
  have hκ : κ (mem i) ≠ κ (mem j) := fun e => hne (h.1 i hi' j hj' e)
  obtain ⟨w, hw, hwne⟩ := hf _ (hm i hi') _ (hm j hj') hκ
  apply hwne
  rw [← hL w i hi' hw, ← hL w j hj' hw]
  exact he w hw

/-! RUNS, THE REFERENCE: steps, all of a run -/
set_option maxRecDepth 100000
/-- the run's state -/
def rU (s : uS) (I : Nat → Nat → Int32) (J : Nat → Nat → Int64) : Prop := (J 117 68 = lN s.1 ∧ s.1 < 2147483648) ∧ (I 117 69 = nI s.2.1 ∧ s.2.1 ≤ 101) ∧ I 117 70 = 0 ∧ (I 117 77 = nI s.2.2.1 ∧ s.2.2.1 ≤ s.2.1) ∧ uT s.2.2.2 157 156 I
theorem uT_cg {V : Nat → List Nat} {lr tr : Nat} {I I' : Nat → Nat → Int32} (h : uT V lr tr I) (h1 : ∀ j, I' lr j = I lr j) (h2 : ∀ j, I' tr j = I tr j) : uT V lr tr I' := fun v hv => ⟨(h v hv).1, (h v hv).2.1, by rw [h1]; exact (h v hv).2.2.1, fun x hx => by rw [h2]; exact (h v hv).2.2.2 x hx⟩
theorem uT_up {V : Nat → List Nat} {v lr tr : Nat} {w : List Nat} {I I' : Nat → Nat → Int32} (hT : uT V lr tr I) (hv : v < 4) (h1 : w.length ≤ 40) (h2 : kW w) (h3 : I' lr v = nI w.length) (h4 : ∀ x, x < w.length → I' tr (40 * v + x) = nI (w.getD x 0)) (o1 : ∀ j, j ≠ v → I' lr j = I lr j) (o2 : ∀ j, ¬ (40 * v ≤ j ∧ j < 40 * v + 40) → I' tr j = I tr j) : uT (jup V v w) lr tr I' := by
  intro v' hv'
  by_cases e : v' = v
  · subst e
    rw [jup_s]
    exact ⟨h1, h2, h3, h4⟩
  · rw [jup_n e]
    obtain ⟨t1, t2, t3, t4⟩ := hT v' hv'
    exact ⟨t1, t2, by rw [o1 _ e]; exact t3, fun x hx => by rw [o2 _ (by omega)]; exact t4 x hx⟩
noncomputable def uPo (q : Nat → Nat → Nat) (P : Nat → kA) (V : Nat → List Nat) (m k x : Nat) : Option (List Nat) → Option (Nat × List Nat)
  | none => none
  | some w => uPs q P V m k x w
section MM
variable (d L : Nat) (g : jG)
theorem r_rs_52 {J : Nat → Nat → Int64} {v M : Nat} (hv : v < 4) (hM : M ≤ 40) : ∀ m i (I : Nat → Nat → Int32), i + m = M → I 117 76 = nI M → (∀ x, x < i → I 156 (40 * v + x) = I 160 x) → ∃ I', (∀ a j, ¬ (a = 156 ∧ 40 * v ≤ j ∧ j < 40 * v + 40) → I' a j = I a j) ∧ (∀ x, x < M → I' 156 (40 * v + x) = I 160 x) ∧ jval d 236 52 [.ref 117, jjunk, .int (nI v), .int (nI i)] [] (jGs L g, I, J) = some (none, (jGs L g, I', J)) := by
  intro m
  induction m with
  | zero =>
    intro i I hi h76 h
    refine ⟨I, fun _ _ _ => rfl, fun x hx => h x (by omega), ?_⟩
    rw [e_TextValuesModel_runsSet_52, h76, jif_t (nI_le (by omega) (by omega))]
  | succ m ih =>
    intro i I hi h76 h
    obtain ⟨I', c1, c2, c3⟩ := ih (i + 1) (ju I 156 (40 * v + i) (I 160 i)) (by omega) (by rw [zu_a (by omega)]; exact h76) (fun x hx => by
      rw [zu_a (show (160 : Nat) ≠ 156 by omega)]
      by_cases e : x = i
      · rw [e, zu_at]
      · rw [zu_k (by omega)]; exact h x (by omega))
    refine ⟨I', fun a j hn => by rw [c1 a j hn, ju_ne (by omega)], fun x hx => by rw [c2 x hx, zu_a (by omega)], ?_⟩
    rw [e_TextValuesModel_runsSet_52, h76, jif_f (nI_ge (by omega) (by omega)), jin_nI (by omega) (by omega), cond_true, show (40 : Int32) = nI 40 from rfl, nI_mul, nI_add, jin_nI (by omega) (by omega), cond_true, nI_c (by omega), nI_c (by omega), nI_1]
    exact c3
theorem r_rs_12 {q : Nat → Nat → Nat} {P : Nat → kA} {V : Nat → List Nat} {a : Nat} (ha : a < q 117 35) (hb : bS q a) (hk1 : q 138 a = 1) : ∀ m k x o (I : Nat → Nat → Int32) (J : Nat → Nat → Int64), k + m = q 140 a → q 139 a ≤ k → rD q P I → uT V 157 156 I → x < 2147483648 → J 117 68 = lN x → mW o I → (∀ w, o = some w → kW w) → ∃ I' J', fU I I' J J' ∧ I' 117 69 = I 117 69 ∧ I' 117 77 = I 117 77 ∧ (uPo q P V m k x o = none → I' 117 70 = 1) ∧ (∀ r, uPo q P V m k x o = some r → J' 117 68 = lN r.1 ∧ r.1 < 2147483648 ∧ I' 117 70 = 0 ∧ uT (jup V (q 141 a) r.2) 157 156 I') ∧ jval (d + 7) 236 12 [.ref 117, .int (nI a), .int (nI k), jjunk] [] (jGs L g, I, J) = some (none, (jGs L g, I', J')) := by
  obtain ⟨v4, lt, le, f, hcd⟩ := hb.1 hk1
  intro m
  induction m with
  | zero =>
    intro k x o I J hk hk0 hD hT hx hJ hm hW
    have b35 := hD.2.2.1.2.2.1
    have b44 := hD.2.2.1.2.1
    have ja : jin (nI a) 130 = true := jin_nI (by omega) (by omega)
    have ca : (nI a).toNatClampNeg = a := nI_c (by omega)
    obtain ⟨q1, q2, q3, q4, -⟩ := hD.1.2.1 a ha
    have hM : ∃ M, M ≤ 40 ∧ I 117 76 = nI M := by
      cases o with
      | none => exact hm.1
      | some w => exact ⟨w.length, hm.1, hm.2.1⟩
    obtain ⟨M, m1, m2⟩ := hM
    obtain ⟨I', c1, c2, c3⟩ := r_rs_52 (d + 7) L g (J := J) v4 m1 M 0 (ju I 157 (q 141 a) (nI M)) (by omega) (by rw [zu_a (by omega)]; exact m2) (fun x hx => by omega)
    have o1 : ∀ b j, b ≠ 156 → b ≠ 157 → I' b j = I b j := fun b j h1 h2 => by rw [c1 b j (by omega), zu_a h2]
    refine ⟨I', J, ⟨fun b j hn => o1 b j (by unfold uXr at hn; omega) (by unfold uXr at hn; omega), fun _ _ _ => rfl⟩, o1 _ _ (by omega) (by omega), o1 _ _ (by omega) (by omega), fun h => ?_, fun r h => ?_, ?_⟩
    · cases o with
      | none => rw [o1 _ _ (by omega) (by omega)]; exact hm.2
      | some w => cases h
    · cases o with
      | none => cases h
      | some w =>
        cases h
        obtain ⟨n1, n2, n3, n4⟩ := hm
        have eM : M = w.length := by
          rw [n2] at m2
          exact ((nI_eq (by omega) (by omega)).mp m2).symm
        subst eM
        refine ⟨hJ, hx, by rw [o1 _ _ (by omega) (by omega)]; exact n4, fun v hv => ?_⟩
        by_cases e : v = q 141 a
        · subst e
          rw [jup_s]
          refine ⟨n1, hW w rfl, by rw [c1 _ _ (by omega), zu_at], fun x hx => ?_⟩
          show I' 156 (40 * q 141 a + x) = nI (w.getD x 0)
          rw [c2 x hx, zu_a (by omega)]
          exact n3 x hx
        · rw [jup_n e]
          obtain ⟨t1, t2, t3, t4⟩ := hT v hv
          exact ⟨t1, t2, by rw [c1 _ _ (by omega), zu_k e]; exact t3, fun x hx => by rw [c1 _ _ (by omega), zu_a (by omega)]; exact t4 x hx⟩
    · rw [e_TextValuesModel_runsSet_12, ja, cond_true, ca, q3, jif_t (nI_le (by omega) (by omega)), cond_true, q4, jin_nI (by omega) (by omega), cond_true, nI_c (by omega), m2, show (0 : Int32) = nI 0 from rfl]
      exact c3
  | succ m ih =>
    intro k x o I J hk hk0 hD hT hx hJ hm hW
    have b35 := hD.2.2.1.2.2.1
    have b44 := hD.2.2.1.2.1
    have ja : jin (nI a) 130 = true := jin_nI (by omega) (by omega)
    have ca : (nI a).toNatClampNeg = a := nI_c (by omega)
    obtain ⟨q1, q2, q3, q4, -⟩ := hD.1.2.1 a ha
    obtain ⟨I1, a1, a2, a3, a4, J1, a5, a6, a7⟩ := r_addsPart (d + 1) L g hD hT (cd_ok _ _ _ _ hcd k (by omega) (by omega)) hx hJ hm
    have F1 : fU I I1 J J1 := ⟨fun b j hn => a1 b j (by unfold uXr at hn; omega), a5⟩
    have hstep : uPo q P V (m + 1) k x o = uPo q P V m (k + 1) (uPt q P V x k).1 (uAdL o (uPt q P V x k).2) := by
      cases o with
      | none => rw [uAdL_none]; rfl
      | some w =>
        rw [uAdL_some _ _ hm.1]
        show (if 40 < w.length + (uPt q P V x k).2.length then none else uPs q P V m (k + 1) (uPt q P V x k).1 (w ++ (uPt q P V x k).2)) = _
        split <;> rfl
    obtain ⟨I', J', c1, c2, c3, c4, c5, c6⟩ := ih (k + 1) _ _ I1 J1 (by omega) (by omega) (rD_f hD F1) (uT_cg hT (fun j => a1 _ _ (by omega)) (fun j => a1 _ _ (by omega))) a4 a6 a2 (fun w' hw' => by
      cases o with
      | none => rw [uAdL_none] at hw'; cases hw'
      | some w =>
        rw [uAdL_some _ _ hm.1] at hw'
        split at hw'
        · cases hw'
        · cases hw'
          intro l hl
          rcases List.mem_append.mp hl with e | e
          · exact hW w rfl l e
          · exact a3 l e)
    rw [hstep]
    refine ⟨I', J', fU_t F1 c1, by rw [c2, a1 _ _ (by omega)], by rw [c3, a1 _ _ (by omega)], c4, c5, ?_⟩
    rw [e_TextValuesModel_runsSet_12, ja, cond_true, ca, q3, jif_f (nI_ge (by omega) (by omega)), a7, jcV_some, e_TextValuesModel_runsSet_27, nI_1]
    exact c6
theorem r_rc_12 {q : Nat → Nat → Nat} {J : Nat → Nat → Int64} {a v p r : Nat} {w : List Nat} (ha : a < 130) (hv : v < 4) (hp : p < 3) (hr : r ≤ 3) (hl : w.length ≤ 40) (hW : kW w) : ∀ m i y (I : Nat → Nat → Int32), i + m = w.length → y.length ≤ i → I 140 a = nI p → I 141 a = nI r → I 157 v = nI w.length → (∀ x, i ≤ x → x < w.length → I 156 (40 * v + x) = nI (w.getD x 0)) → (∀ x, x < y.length → I 156 (40 * v + x) = nI (y.getD x 0)) → ∃ I', (∀ b j, ¬ (b = 156 ∧ 40 * v ≤ j ∧ j < 40 * v + 40) → ¬ (b = 157 ∧ j = v) → I' b j = I b j) ∧ I' 157 v = nI (y ++ uChg p r (w.drop i)).length ∧ (∀ x, x < (y ++ uChg p r (w.drop i)).length → I' 156 (40 * v + x) = nI ((y ++ uChg p r (w.drop i)).getD x 0)) ∧ jval d 237 12 [.ref 117, .int (nI a), .int (nI v), .int (nI y.length), .int (nI i), jjunk] [] (jGs L g, I, J) = some (none, (jGs L g, I', J)) := by
  intro m
  induction m with
  | zero =>
    intro i y I hi hy h140 h141 h157 h1 h2
    rw [List.drop_eq_nil_of_le (by omega), show uChg p r [] = [] from rfl, List.append_nil]
    refine ⟨ju I 157 v (nI y.length), fun b j hn hn' => ju_ne (by omega), zu_at _ _ _ _, fun x hx => by rw [zu_a (by omega)]; exact h2 x hx, ?_⟩
    rw [e_TextValuesModel_runsChange_12, jin_nI (by omega) (by omega), cond_true, nI_c (by omega), h157, jif_t (nI_le (by omega) (by omega)), cond_true]
  | succ m ih =>
    intro i y I hi hy h140 h141 h157 h1 h2
    have w3 := kW_get hW (show i < w.length by omega)
    have hi1 := h1 i (Nat.le_refl _) (by omega)
    rw [drop_c (show i < w.length by omega)]
    generalize w.getD i 0 = l at *
    have ja : jin (nI a) 130 = true := jin_nI (by omega) (by omega)
    have ca : (nI a).toNatClampNeg = a := nI_c (by omega)
    -- the letter that is written
    have wr : ∀ z y', z ≤ 3 → (z = 3 → y' = y) → (z ≠ 3 → y' = y ++ [z]) → ∃ I', (∀ b j, ¬ (b = 156 ∧ 40 * v ≤ j ∧ j < 40 * v + 40) → ¬ (b = 157 ∧ j = v) → I' b j = I b j) ∧ I' 157 v = nI (y' ++ uChg p r (w.drop (i + 1))).length ∧ (∀ x, x < (y' ++ uChg p r (w.drop (i + 1))).length → I' 156 (40 * v + x) = nI ((y' ++ uChg p r (w.drop (i + 1))).getD x 0)) ∧ jval d 237 59 [.ref 117, .int (nI a), .int (nI v), .int (nI y.length), .int (nI i), jjunk] [.int (nI z)] (jGs L g, I, J) = some (none, (jGs L g, I', J)) := by
      intro z y' hz e1 e2
      have hle : y'.length ≤ i + 1 ∧ (z = 3 → y'.length = y.length) ∧ (z ≠ 3 → y'.length = y.length + 1) := by
        by_cases h : z = 3
        · rw [e1 h]; exact ⟨by omega, fun _ => rfl, fun h' => absurd h h'⟩
        · rw [e2 h]
          have : (y ++ [z]).length = y.length + 1 := by simp
          exact ⟨by omega, fun h' => absurd h' h, fun _ => this⟩
      obtain ⟨I', c1, c2, c3, c4⟩ := ih (i + 1) y' (ju I 156 (40 * v + y.length) (nI z)) (by omega) hle.1 (by rw [zu_a (by omega)]; exact h140) (by rw [zu_a (by omega)]; exact h141) (by rw [zu_a (by omega)]; exact h157) (fun x x1 x2 => by rw [zu_k (by omega)]; exact h1 x (by omega) x2) (fun x hx => by
        by_cases h : z = 3
        · have := e1 h
          subst this
          rw [zu_k (by omega)]
          exact h2 x hx
        · have e := e2 h
          rw [e, getD_app]
          by_cases hxy : x < y.length
          · rw [zu_k (by omega), if_pos hxy]; exact h2 x hxy
          · have : x = y.length := by
              have := hle.2.2 h
              omega
            subst this
            rw [zu_at, if_neg hxy, Nat.sub_self]
            rfl)
      refine ⟨I', fun b j hn hn' => by rw [c1 b j hn hn', ju_ne (by omega)], c2, c3, ?_⟩
      rw [e_TextValuesModel_runsChange_59, show (40 : Int32) = nI 40 from rfl, nI_mul, nI_add, jin_nI (by omega) (by omega), cond_true, nI_c (by omega)]
      by_cases h : z = 3
      · rw [jif_t (by rw [h]; rfl), e_TextValuesModel_runsChange_86, nI_1, show (0 : Int32) = nI 0 from rfl, nI_add, Nat.add_zero]
        rw [hle.2.1 h] at c4
        exact c4
      · rw [jif_f (show ¬ nI z = (3 : Int32) from fun e => h ((nI_eq (b := 3) (by omega) (by omega)).mp e)), e_TextValuesModel_runsChange_86, nI_1, nI_1]
        rw [hle.2.2 h] at c4
        exact c4
    have start : jval d 237 12 [.ref 117, .int (nI a), .int (nI v), .int (nI y.length), .int (nI i), jjunk] [] (jGs L g, I, J) = jval d 237 59 [.ref 117, .int (nI a), .int (nI v), .int (nI y.length), .int (nI i), jjunk] [.int (nI (if l = p then r else l))] (jGs L g, I, J) := by
      rw [e_TextValuesModel_runsChange_12, jin_nI (by omega) (by omega), cond_true, nI_c (by omega), h157, jif_f (nI_ge (by omega) (by omega)), show (40 : Int32) = nI 40 from rfl, nI_mul, nI_add, jin_nI (by omega) (by omega), cond_true, nI_c (by omega), ja, cond_true, ca, hi1, h140]
      by_cases h : l = p
      · rw [jif_t (by rw [h]), cond_true, h141, if_pos h]
      · rw [jif_f (fun e => h ((nI_eq (by omega) (by omega)).mp e)), if_neg h]
    rw [start]
    unfold uChg
    by_cases h : l = p
    · rw [if_pos h]
      by_cases h3 : r = 3
      · rw [if_pos h, if_pos h3]
        exact wr r y hr (fun _ => rfl) (fun h' => absurd h3 h')
      · rw [if_pos h, if_neg h3, show y ++ r :: uChg p r (w.drop (i + 1)) = (y ++ [r]) ++ uChg p r (w.drop (i + 1)) by simp]
        exact wr r (y ++ [r]) hr (fun h' => absurd h' h3) (fun _ => rfl)
    · rw [if_neg h, if_neg h, show y ++ l :: uChg p r (w.drop (i + 1)) = (y ++ [l]) ++ uChg p r (w.drop (i + 1)) by simp]
      exact wr l (y ++ [l]) (by omega) (fun h' => by omega) (fun _ => rfl)
theorem r_on_29 {q : Nat → Nat → Nat} {I : Nat → Nat → Int32} {J : Nat → Nat → Int64} {a s n : Nat} (hQ : rQ q I) (ha : a < q 117 35) (h35 : q 117 35 ≤ 120) (hs : q 138 a = s) (h1 : 1 ≤ s) (h9 : s ≤ 9) (h69 : I 117 69 = nI n) : jcall (d + 1) 238 [.ref 117, .int (nI a)] (jGs L g, I, J) = jval d 238 (if s = 1 then 80 else if s = 2 then 89 else if s = 3 then 98 else if s = 4 then 135 else if s = 5 then 169 else if s = 6 then 192 else if s = 7 then 226 else if s = 8 then 249 else 258) [.ref 117, .int (nI a), jjunk] [] (jGs L g, ju I 117 69 (nI (n + (if s ≤ 7 then 1 else 0))), J) := by
  have hk := (hQ.2.1 a ha).1
  rw [hs] at hk
  rw [c_TextValuesModel_runsOn, e_TextValuesModel_runsOn_0, jin_nI (by omega) (by omega), cond_true, nI_c (by omega), hk, h69]
  have hc : s = 1 ∨ s = 2 ∨ s = 3 ∨ s = 4 ∨ s = 5 ∨ s = 6 ∨ s = 7 ∨ s = 8 ∨ s = 9 := by omega
  rcases hc with e | e | e | e | e | e | e | e | e <;> subst e
  · rw [jif_f (by decide), jif_f (by decide), e_TextValuesModel_runsOn_29, jif_t (by decide), nI_1]; rfl
  · rw [jif_f (by decide), jif_f (by decide), e_TextValuesModel_runsOn_29, jif_f (by decide), jif_t (by decide), nI_1]; rfl
  · rw [jif_f (by decide), jif_f (by decide), e_TextValuesModel_runsOn_29, jif_f (by decide), jif_f (by decide), jif_t (by decide), nI_1]; rfl
  · rw [jif_f (by decide), jif_f (by decide), e_TextValuesModel_runsOn_29, jif_f (by decide), jif_f (by decide), jif_f (by decide), jif_t (by decide), nI_1]; rfl
  · rw [jif_f (by decide), jif_f (by decide), e_TextValuesModel_runsOn_29, jif_f (by decide), jif_f (by decide), jif_f (by decide), jif_f (by decide), jif_t (by decide), nI_1]; rfl
  · rw [jif_f (by decide), jif_f (by decide), e_TextValuesModel_runsOn_29, jif_f (by decide), jif_f (by decide), jif_f (by decide), jif_f (by decide), jif_f (by decide), jif_t (by decide), nI_1]; rfl
  · rw [jif_f (by decide), jif_f (by decide), e_TextValuesModel_runsOn_29, jif_f (by decide), jif_f (by decide), jif_f (by decide), jif_f (by decide), jif_f (by decide), jif_f (by decide), jif_t (by decide), nI_1]; rfl
  · rw [jif_t (by decide), e_TextValuesModel_runsOn_24, e_TextValuesModel_runsOn_29, jif_f (by decide), jif_f (by decide), jif_f (by decide), jif_f (by decide), jif_f (by decide), jif_f (by decide), jif_f (by decide), jif_t (by decide), show (0 : Int32) = nI 0 from rfl, nI_add]; rfl
  · rw [jif_f (by decide), jif_t (by decide), e_TextValuesModel_runsOn_24, e_TextValuesModel_runsOn_29, jif_f (by decide), jif_f (by decide), jif_f (by decide), jif_f (by decide), jif_f (by decide), jif_f (by decide), jif_f (by decide), jif_f (by decide), show (0 : Int32) = nI 0 from rfl, nI_add]; rfl
theorem fU_69 (I : Nat → Nat → Int32) (J : Nat → Nat → Int64) (x : Int32) : fU I (ju I 117 69 x) J J := ⟨fun a j hx => ju_ne (by unfold uXr at hx; omega), fun _ _ _ => rfl⟩
theorem rU_C {s : uS} {I : Nat → Nat → Int32} {J : Nat → Nat → Int64} (h : rU s I J) (h1 : s.2.1 ≤ 100) : rU (uC s) (ju I 117 69 (nI (s.2.1 + 1))) J := by
  obtain ⟨u1, u2, u3, u4, u5⟩ := h
  refine ⟨u1, ⟨zu_at _ _ _ _, by show s.2.1 + 1 ≤ 101; omega⟩, by rw [zu_k (by omega)]; exact u3, ⟨by rw [zu_k (by omega)]; exact u4.1, by show s.2.2.1 ≤ s.2.1 + 1; have := u4.2; omega⟩, uT_cg u5 (fun j => zu_a (by omega)) (fun j => zu_a (by omega))⟩
/-- a simple statement -/
theorem r_on_st {q : Nat → Nat → Nat} {P : Nat → kA} {I : Nat → Nat → Int32} {J : Nat → Nat → Int64} {a : Nat} {s : uS} (hD : rD q P I) (hU : rU s I J) (h100 : s.2.1 ≤ 100) (ha : a < q 117 35) (hb : bS q a) (h1 : 1 ≤ q 138 a) (h3 : q 138 a ≤ 3) : ∃ I' J', fU I I' J J' ∧ I' 117 69 = nI (s.2.1 + 1) ∧ (uS1 q P a (uC s) = none → I' 117 70 = 1) ∧ (∀ s', uS1 q P a (uC s) = some s' → rU s' I' J') ∧ jcall (d + 9) 238 [.ref 117, .int (nI a)] (jGs L g, I, J) = some (some (.int (nI (a + 1))), (jGs L g, I', J')) := by
  have b35 := hD.2.2.1.2.2.1
  have ja : jin (nI a) 130 = true := jin_nI (by omega) (by omega)
  have ca : (nI a).toNatClampNeg = a := nI_c (by omega)
  have U1 := rU_C hU h100
  have F1 := fU_69 I J (nI (s.2.1 + 1))
  have D1 := rD_f hD F1
  have start := r_on_29 (d + 8) L g (J := J) hD.1 ha b35 rfl h1 (by omega) hU.2.1.1
  rw [if_pos (show q 138 a ≤ 7 by omega)] at start
  rw [start]
  obtain ⟨u1, u2, u3, u4, u5⟩ := U1
  unfold uS1
  have hc : q 138 a = 1 ∨ q 138 a = 2 ∨ q 138 a = 3 := by omega
  rcases hc with e | e | e
  · rw [if_pos e]
    obtain ⟨v4, lt, le, f, hcd⟩ := hb.1 e
    obtain ⟨q1, q2, q3, q4, -⟩ := D1.1.2.1 a ha
    have F2 : fU (ju I 117 69 (nI (s.2.1 + 1))) (ju (ju I 117 69 (nI (s.2.1 + 1))) 117 76 0) J J := ⟨fun a j hx => ju_ne (by unfold uXr at hx; omega), fun _ _ _ => rfl⟩
    obtain ⟨I', J', c1, c2, c3, c4, c5, c6⟩ := r_rs_12 d L g (P := P) (V := (uC s).2.2.2) ha hb e (q 140 a - q 139 a) (q 139 a) (uC s).1 (some []) (ju (ju I 117 69 (nI (s.2.1 + 1))) 117 76 0) J (by omega) (Nat.le_refl _) (rD_f D1 F2) (uT_cg u5 (fun j => zu_a (by omega)) (fun j => zu_a (by omega))) u1.2 u1.1 ⟨by show 0 ≤ 40; omega, zu_at _ _ _ _, fun x hx => absurd hx (by show ¬ x < 0; omega), by rw [zu_k (by omega)]; exact u3⟩ (fun w hw => by cases hw; exact kW_nil)
    refine ⟨I', J', fU_t F1 (fU_t F2 c1), by rw [c2, zu_k (by omega)]; exact u2.1, fun h => ?_, fun s' h => ?_, ?_⟩
    · refine c4 ?_
      cases hp : uPs q P (uC s).2.2.2 (q 140 a - q 139 a) (q 139 a) (uC s).1 [] with
      | none => exact hp
      | some r => rw [hp] at h; cases h
    · cases hp : uPs q P (uC s).2.2.2 (q 140 a - q 139 a) (q 139 a) (uC s).1 [] with
      | none => rw [hp] at h; cases h
      | some r =>
        rw [hp] at h
        cases h
        obtain ⟨z1, z2, z3, z4⟩ := c5 r hp
        exact ⟨⟨z1, z2⟩, ⟨by rw [c2, zu_k (by omega)]; exact u2.1, u2.2⟩, z3, ⟨by rw [c3, zu_k (by omega)]; exact u4.1, u4.2⟩, z4⟩
    · rw [e]
      show jval (d + 8) 238 80 _ _ _ = _
      rw [e_TextValuesModel_runsOn_80, c_TextValuesModel_runsSet, e_TextValuesModel_runsSet_0, ja, cond_true, ca, q2, c6, jcV_some, e_TextValuesModel_runsOn_85, nI_1]
  · rw [if_neg (by omega), if_pos e]
    obtain ⟨v4, p3, r3⟩ := hb.2.1 e
    obtain ⟨q1, q2, q3, q4, -⟩ := D1.1.2.1 a ha
    obtain ⟨t1, t2, t3, t4⟩ := u5 _ v4
    obtain ⟨I', c1, c2, c3, c4⟩ := r_rc_12 (q := q) (d + 7) L g (J := J) (a := a) (v := q 139 a) (p := q 140 a) (r := q 141 a) (w := (uC s).2.2.2 (q 139 a)) (by omega) v4 p3 r3 t1 t2 ((uC s).2.2.2 (q 139 a)).length 0 [] (ju I 117 69 (nI (s.2.1 + 1))) (by omega) (Nat.le_refl _) q3 q4 t3 (fun x _ hx => t4 x hx) (fun x hx => absurd hx (by show ¬ x < 0; omega))
    have hl := uChg_len (q 140 a) (q 141 a) ((uC s).2.2.2 (q 139 a))
    have F2 : fU (ju I 117 69 (nI (s.2.1 + 1))) I' J J := ⟨fun a j hx => c1 a j (by unfold uXr at hx; omega) (by unfold uXr at hx; omega), fun _ _ _ => rfl⟩
    refine ⟨I', J, fU_t F1 F2, by rw [c1 _ _ (by omega) (by omega)]; exact u2.1, fun h => (by cases h), fun s' h => ?_, ?_⟩
    · cases h
      refine ⟨u1, ⟨by rw [c1 _ _ (by omega) (by omega)]; exact u2.1, u2.2⟩, by rw [c1 _ _ (by omega) (by omega)]; exact u3, ⟨by rw [c1 _ _ (by omega) (by omega)]; exact u4.1, u4.2⟩, uT_up u5 v4 (by omega) (uChg_W r3 _ t2) c2 c3 (fun j hj => c1 _ _ (by omega) (by omega)) (fun j hj => c1 _ _ (by omega) (by omega))⟩
    · rw [e]
      show jval (d + 8) 238 89 _ _ _ = _
      rw [show ([] : List Nat).length = 0 from rfl] at c4
      rw [e_TextValuesModel_runsOn_89, c_TextValuesModel_runsChange, e_TextValuesModel_runsChange_0, ja, cond_true, ca, q2, show (0 : Int32) = nI 0 from rfl, c4, jcV_some, e_TextValuesModel_runsOn_94, nI_1]
  · rw [if_neg (by omega), if_neg (by omega)]
    obtain ⟨v4, w4, -⟩ := hb.2.2.1 e
    obtain ⟨q1, q2, q3, q4, -⟩ := D1.1.2.1 a ha
    have hh := r_holdsNow (d + 4) L g (J := J) (D1.2.1 _ w4).1 u5 v4
    refine ⟨ju (ju I 117 69 (nI (s.2.1 + 1))) 117 77 (nI (s.2.2.1 + (if kL (P (q 140 a)) 0 ((uC s).2.2.2 (q 139 a)) = true then 1 else 0))), J, fU_t F1 ⟨fun a j hx => ju_ne (by unfold uXr at hx; omega), fun _ _ _ => rfl⟩, by rw [zu_k (by omega), zu_at], fun h => (by cases h), fun s' h => ?_, ?_⟩
    · cases h
      refine ⟨u1, ⟨by rw [zu_k (by omega)]; exact u2.1, u2.2⟩, by rw [zu_k (by omega)]; exact u3, ⟨zu_at _ _ _ _, ?_⟩, uT_cg u5 (fun j => zu_a (by omega)) (fun j => zu_a (by omega))⟩
      show s.2.2.1 + (if _ then 1 else 0) ≤ s.2.1 + 1
      have := hU.2.2.2.1.2
      split <;> omega
    · rw [e]
      show jval (d + 8) 238 98 _ _ _ = _
      rw [e_TextValuesModel_runsOn_98, ja, cond_true, cond_true, ca, q2, q3, hh, jcI_some, e_TextValuesModel_runsOn_119, u4.1]
      cases kL (P (q 140 a)) 0 ((uC s).2.2.2 (q 139 a)) with
      | true => rw [jif_f (by decide), e_TextValuesModel_runsOn_127, nI_1, nI_1]; rfl
      | false => rw [jif_t (by decide), e_TextValuesModel_runsOn_127, nI_1, show (0 : Int32) = nI 0 from rfl, nI_add]; rfl
/-- a test -/
theorem r_on_ts {q : Nat → Nat → Nat} {P : Nat → kA} {I : Nat → Nat → Int32} {J : Nat → Nat → Int64} {a mt : Nat} {s : uS} (hD : rD q P I) (hU : rU s I J) (h100 : s.2.1 ≤ 100) (ha : a < q 117 35) (hb : bS q a) (h4 : 4 ≤ q 138 a) (h7 : q 138 a ≤ 7) (hm : q 142 a = mt + 1) : ∃ I' J', fU I I' J J' ∧ rU (uTs q P a (uC s)).2 I' J' ∧ jcall (d + 9) 238 [.ref 117, .int (nI a)] (jGs L g, I, J) = some (some (.int (nI (if (uTs q P a (uC s)).1 = true then a + 1 else mt + 1))), (jGs L g, I', J')) := by
  have b35 := hD.2.2.1.2.2.1
  have ja : jin (nI a) 130 = true := jin_nI (by omega) (by omega)
  have ca : (nI a).toNatClampNeg = a := nI_c (by omega)
  have U1 := rU_C hU h100
  have F1 := fU_69 I J (nI (s.2.1 + 1))
  have D1 := rD_f hD F1
  have start := r_on_29 (d + 8) L g (J := J) hD.1 ha b35 rfl (by omega) (by omega) hU.2.1.1
  rw [if_pos h7] at start
  rw [start]
  obtain ⟨q1, q2, q3, q4, q5⟩ := D1.1.2.1 a ha
  have j142 := q5 mt hm
  unfold uTs
  by_cases hk : q 138 a = 4 ∨ q 138 a = 6
  · rw [if_pos hk]
    obtain ⟨v4, w4⟩ := hb.2.2.2 hk
    have hh := r_holdsNow (d + 4) L g (J := J) (D1.2.1 _ w4).1 U1.2.2.2.2 v4
    refine ⟨_, J, F1, U1, ?_⟩
    rcases hk with e | e
    · rw [e]
      show jval (d + 8) 238 135 _ _ _ = _
      rw [e_TextValuesModel_runsOn_135, ja, cond_true, cond_true, ca, q2, q3, hh, jcI_some, e_TextValuesModel_runsOn_151, ja, cond_true, ca, j142, nI_1, nI_1]
      cases kL (P (q 140 a)) 0 ((uC s).2.2.2 (q 139 a)) with
      | true => rw [jif_f (by decide), e_TextValuesModel_runsOn_168]; rfl
      | false => rw [jif_t (by decide), e_TextValuesModel_runsOn_168]; rfl
    · rw [e]
      show jval (d + 8) 238 192 _ _ _ = _
      rw [e_TextValuesModel_runsOn_192, ja, cond_true, cond_true, ca, q2, q3, hh, jcI_some, e_TextValuesModel_runsOn_208, ja, cond_true, ca, j142, nI_1, nI_1]
      cases kL (P (q 140 a)) 0 ((uC s).2.2.2 (q 139 a)) with
      | true => rw [jif_f (by decide), e_TextValuesModel_runsOn_225]; rfl
      | false => rw [jif_t (by decide), e_TextValuesModel_runsOn_225]; rfl
  · rw [if_neg hk]
    obtain ⟨u1, u2, u3, u4, u5⟩ := U1
    have FJ : fU (ju I 117 69 (nI (s.2.1 + 1))) (ju I 117 69 (nI (s.2.1 + 1))) J (ju J 117 68 (lN (uDr (uC s).1))) := ⟨fun _ _ _ => rfl, fun a j hx => ju_ne (by omega)⟩
    have U2 : rU (uDr (uC s).1, (uC s).2) (ju I 117 69 (nI (s.2.1 + 1))) (ju J 117 68 (lN (uDr (uC s).1))) := ⟨⟨zu_at _ _ _ _, uDr_lt _⟩, u2, u3, u4, u5⟩
    by_cases h5 : q 138 a = 5
    · rw [if_pos h5]
      refine ⟨_, _, fU_t F1 FJ, U2, ?_⟩
      rw [h5]
      show jval (d + 8) 238 169 _ _ _ = _
      rw [e_TextValuesModel_runsOn_169, show (2 : Int32) = nI 2 from rfl, r_draws (d + 7) L g u1.2 u1.1 (by omega) (by omega), jcI_some, e_TextValuesModel_runsOn_174, ja, cond_true, ca, j142, nI_1, nI_1]
      have hlt : uDr (uC s).1 / 65536 % 2 < 2 := Nat.mod_lt _ (by omega)
      by_cases hz : uDr (uC s).1 / 65536 % 2 = 0
      · rw [decide_eq_true hz, hz, jif_t (by decide), e_TextValuesModel_runsOn_191]; rfl
      · rw [decide_eq_false hz, jif_f (show ¬ nI (uDr (uC s).1 / 65536 % 2) = (0 : Int32) from fun e => hz ((nI_eq (b := 0) (by omega) (by omega)).mp e)), e_TextValuesModel_runsOn_191]; rfl
    · rw [if_neg h5]
      have e7 : q 138 a = 7 := by omega
      refine ⟨_, _, fU_t F1 FJ, U2, ?_⟩
      rw [e7]
      show jval (d + 8) 238 226 _ _ _ = _
      rw [e_TextValuesModel_runsOn_226, show (3 : Int32) = nI 3 from rfl, r_draws (d + 7) L g u1.2 u1.1 (by omega) (by omega), jcI_some, e_TextValuesModel_runsOn_231, ja, cond_true, ca, j142, nI_1, nI_1]
      have hlt : uDr (uC s).1 / 65536 % 3 < 3 := Nat.mod_lt _ (by omega)
      by_cases hz : uDr (uC s).1 / 65536 % 3 = 0
      · rw [decide_eq_false (fun h => h hz), hz, jif_t (by decide), e_TextValuesModel_runsOn_248]; rfl
      · rw [decide_eq_true hz, jif_f (show ¬ nI (uDr (uC s).1 / 65536 % 3) = (0 : Int32) from fun e => hz ((nI_eq (b := 0) (by omega) (by omega)).mp e)), e_TextValuesModel_runsOn_248]; rfl
end MM

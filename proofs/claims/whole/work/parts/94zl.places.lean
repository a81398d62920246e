/-! PROGRAMS: how the places grow -/
set_option maxRecDepth 100000
/-- from i and q on: the place has grown by e at least, the alarms no faster -/
def pI (N e i : Nat) (q : Nat → Nat → Nat) (r : Bool × Nat × (Nat → Nat → Nat)) : Prop := r.1 = true → i + e ≤ r.2.1 ∧ r.2.1 ≤ N ∧ r.2.2 117 42 + i ≤ q 117 42 + r.2.1
theorem pI_f {N e i j : Nat} {q q' : Nat → Nat → Nat} : pI N e i q (false, j, q') := fun h => Bool.noConfusion h
theorem pPts_i (c : Nat → Nat) (N fr : Nat) : ∀ f i q, i ≤ N → pI N 1 i q (pPts c N fr f i q) ∧ (pPts c N fr f i q).2.2 117 42 = q 117 42 := by
  intro f
  induction f with
  | zero => intro i q _; exact ⟨pI_f, rfl⟩
  | succ f ih =>
    intro i q hi
    obtain ⟨hs1, hs2⟩ := pSk_le (c := c) hi
    have ep : ∀ (q : Nat → Nat → Nat) s a b, qPart q s a b 117 42 = q 117 42 := fun q s a b => by
      unfold qPart
      simp (disch := omega) only [zu_a, zu_k]
    have ec : ∀ (q : Nat → Nat → Nat) x, qCode q x 117 42 = q 117 42 := fun q x => qCode_r (by omega) (by omega)
    unfold pPts
    by_cases h : pCh c N i = 39
    · rw [if_pos h]
      have hlt := pCh_lt (c := c) (N := N) (i := i) (by omega)
      have hl := (pLet_35 c N (N + 1) (pSk c N i + 1) (qCode q 39)).2.2
      have hli := pLet_i c N (N + 1) (pSk c N i + 1) (qCode q 39) (by omega)
      rcases hp : pLet c N (N + 1) (pSk c N i + 1) (qCode q 39) with ⟨b, i', q'⟩
      rw [hp] at hl hli
      have hl' : q' 117 42 = q 117 42 := hl.trans (ec _ 39)
      cases b
      · exact ⟨pI_f, hl'⟩
      · obtain ⟨y1, y2⟩ := hli rfl
        have y1' : pSk c N i + 1 < i' := y1
        have y2' : i' ≤ N := y2
        obtain ⟨z1, z2⟩ := ih i' (qPart q' 1 (q 117 48) (q' 117 48 - q 117 48)) y2'
        rw [ep, hl'] at z2
        refine ⟨fun ht => ?_, z2⟩
        obtain ⟨w1, w2, w3⟩ := z1 ht
        rw [ep, hl'] at w3
        exact ⟨Nat.le_trans (by omega) w1, w2, by rw [z2] at *; exact Nat.add_le_add_left (Nat.le_trans (by omega) w1) _⟩
    · rw [if_neg h]
      have go : ∀ q2 : Nat → Nat → Nat, pSk c N i < N → q2 117 42 = q 117 42 → pI N 1 i q (pPts c N fr f (pSk c N i + 1) q2) ∧ (pPts c N fr f (pSk c N i + 1) q2).2.2 117 42 = q 117 42 := by
        intro q2 hlt e2
        obtain ⟨z1, z2⟩ := ih (pSk c N i + 1) q2 (by omega)
        rw [e2] at z2
        refine ⟨fun ht => ?_, z2⟩
        obtain ⟨w1, w2, w3⟩ := z1 ht
        exact ⟨Nat.le_trans (by omega) w1, w2, by rw [z2]; exact Nat.add_le_add_left (Nat.le_trans (by omega) w1) _⟩
      by_cases h2 : 48 ≤ pCh c N i ∧ pCh c N i ≤ 51
      · rw [if_pos h2]
        exact go _ (pCh_lt (by omega)) (by rw [ec, ep])
      · rw [if_neg h2]
        by_cases h3 : pCh c N i = 59 ∧ fr < q 117 44
        · rw [if_pos h3]
          have hlt := pCh_lt (c := c) (N := N) (i := i) (by omega)
          refine ⟨fun _ => ⟨show i + 1 ≤ pSk c N i + 1 by omega, show pSk c N i + 1 ≤ N by omega, ?_⟩, ec q 59⟩
          show qCode q 59 117 42 + i ≤ q 117 42 + (pSk c N i + 1)
          rw [ec]; omega
        · rw [if_neg h3]
          cases hv : vO (pCh c N i) with
          | none => exact ⟨pI_f, rfl⟩
          | some v => exact go _ (pCh_lt (by have := vO_lt hv; omega)) (by rw [ec, ep])
theorem pVar_i (c : Nat → Nat) (N v i : Nat) (q : Nat → Nat → Nat) (hi : i ≤ N) : pI N 1 i q (pVar c N v i q) := by
  obtain ⟨hs1, hs2⟩ := pSk_le (c := c) hi
  unfold pVar
  by_cases h : pCh c N i = 61
  · rw [if_pos h]
    have hlt := pCh_lt (c := c) (N := N) (i := i) (by omega)
    obtain ⟨z1, z2⟩ := pPts_i c N (q 117 44) (N + 1) (pSk c N i + 1) q (by omega)
    rcases hp : pPts c N (q 117 44) (N + 1) (pSk c N i + 1) q with ⟨b, i', q'⟩
    rw [hp] at z1 z2
    cases b
    · exact pI_f
    · obtain ⟨w1, w2, w3⟩ := z1 rfl
      have w1' : pSk c N i + 1 + 1 ≤ i' := w1
      have z2' : q' 117 42 = q 117 42 := z2
      refine fun _ => ⟨show i + 1 ≤ i' by omega, w2, ?_⟩
      show ju (qCome q' 1 (q 117 44) (q' 117 44) v) 1000 (q 117 35) (q 35 8) 117 42 + i ≤ q 117 42 + i'
      rw [zu_a (by omega), qCome_r (by omega) (by omega)]
      omega
  · rw [if_neg h]
    by_cases h2 : pCh c N i = 47
    · rw [if_pos h2]
      have hlt := pCh_lt (c := c) (N := N) (i := i) (by omega)
      generalize hj : pSk c N i + 1 = j
      obtain ⟨j1, j2⟩ := pSk_le (c := c) (show j ≤ N by omega)
      cases h3 : nO 2 (pCh c N j) with
      | none => exact pI_f
      | some a =>
        have jlt := pCh_lt (c := c) (N := N) (i := j) (by have := (nO_lt h3).2; omega)
        show pI N 1 i q (match nO 3 (pCh c N (pSk c N j + 1)) with
          | none => (false, pSk c N (pSk c N j + 1), q)
          | some b => if pCh c N (pSk c N (pSk c N j + 1) + 1) = 59 then (true, pSk c N (pSk c N (pSk c N j + 1) + 1) + 1, qCome q 2 v a b) else (false, pSk c N (pSk c N (pSk c N j + 1) + 1), q))
        generalize hk : pSk c N j + 1 = k
        obtain ⟨k1, k2⟩ := pSk_le (c := c) (show k ≤ N by omega)
        cases h4 : nO 3 (pCh c N k) with
        | none => exact pI_f
        | some b =>
          have klt := pCh_lt (c := c) (N := N) (i := k) (by have := (nO_lt h4).2; omega)
          show pI N 1 i q (if pCh c N (pSk c N k + 1) = 59 then (true, pSk c N (pSk c N k + 1) + 1, qCome q 2 v a b) else (false, pSk c N (pSk c N k + 1), q))
          generalize hm : pSk c N k + 1 = m
          obtain ⟨m1, m2⟩ := pSk_le (c := c) (show m ≤ N by omega)
          by_cases h5 : pCh c N m = 59
          · have mlt := pCh_lt (c := c) (N := N) (i := m) (by omega)
            rw [if_pos h5]
            refine fun _ => ⟨show i + 1 ≤ pSk c N m + 1 by omega, show pSk c N m + 1 ≤ N by omega, ?_⟩
            show qCome q 2 v a b 117 42 + i ≤ q 117 42 + (pSk c N m + 1)
            rw [qCome_r (by omega) (by omega)]; omega
          · rw [if_neg h5]; exact pI_f
    · rw [if_neg h2]; exact pI_f
theorem pAl_i (c : Nat → Nat) (N a0 i : Nat) (q : Nat → Nat → Nat) (hi : i ≤ N) : pI N 1 i q (pAl c N a0 i q) := by
  obtain ⟨hs1, hs2⟩ := pSk_le (c := c) hi
  unfold pAl
  cases h1 : nO 0 (pCh c N i) with
  | none => exact pI_f
  | some v =>
    have hlt := pCh_lt (c := c) (N := N) (i := i) (by have := (nO_lt h1).2; omega)
    show pI N 1 i q (match nO 1 (pCh c N (pSk c N i + 1)) with
      | none => (false, pSk c N (pSk c N i + 1), q)
      | some w => if pCh c N (pSk c N (pSk c N i + 1) + 1) = 59 then (true, pSk c N (pSk c N (pSk c N i + 1) + 1) + 1, ju (qCome (ju q 143 (q 117 42) a0) 3 v w (q 117 42)) 117 42 (q 117 42 + 1)) else (false, pSk c N (pSk c N (pSk c N i + 1) + 1), q))
    generalize hj : pSk c N i + 1 = j
    obtain ⟨j1, j2⟩ := pSk_le (c := c) (show j ≤ N by omega)
    cases h2 : nO 1 (pCh c N j) with
    | none => exact pI_f
    | some w =>
      have jlt := pCh_lt (c := c) (N := N) (i := j) (by have := (nO_lt h2).2; omega)
      show pI N 1 i q (if pCh c N (pSk c N j + 1) = 59 then (true, pSk c N (pSk c N j + 1) + 1, ju (qCome (ju q 143 (q 117 42) a0) 3 v w (q 117 42)) 117 42 (q 117 42 + 1)) else (false, pSk c N (pSk c N j + 1), q))
      generalize hk : pSk c N j + 1 = k
      obtain ⟨k1, k2⟩ := pSk_le (c := c) (show k ≤ N by omega)
      by_cases h5 : pCh c N k = 59
      · have klt := pCh_lt (c := c) (N := N) (i := k) (by omega)
        rw [if_pos h5]
        refine fun _ => ⟨show i + 1 ≤ pSk c N k + 1 by omega, show pSk c N k + 1 ≤ N by omega, ?_⟩
        show ju (qCome (ju q 143 (q 117 42) a0) 3 v w (q 117 42)) 117 42 (q 117 42 + 1) 117 42 + i ≤ q 117 42 + (pSk c N k + 1)
        rw [zu_at]; omega
      · rw [if_neg h5]; exact pI_f
theorem pHd_i (c : Nat → Nat) (N x i : Nat) (q : Nat → Nat → Nat) (hi : i ≤ N) : pI N 0 i q (pHd c N x i q) := by
  obtain ⟨hs1, hs2⟩ := pSk_le (c := c) hi
  have e : ∀ s a b, qCome q s a b 0 117 42 = q 117 42 := fun s a b => qCome_r (by omega) (by omega)
  unfold pHd
  split
  · cases h1 : nO 0 (pCh c N i) with
    | none => exact pI_f
    | some v =>
      have hlt := pCh_lt (c := c) (N := N) (i := i) (by have := (nO_lt h1).2; omega)
      show pI N 0 i q (match nO 1 (pCh c N (pSk c N i + 1)) with
        | none => (false, pSk c N (pSk c N i + 1), q)
        | some w => (true, pSk c N (pSk c N i + 1) + 1, qCome q (sortO x) v w 0))
      generalize hj : pSk c N i + 1 = j
      obtain ⟨j1, j2⟩ := pSk_le (c := c) (show j ≤ N by omega)
      cases h2 : nO 1 (pCh c N j) with
      | none => exact pI_f
      | some w =>
        have jlt := pCh_lt (c := c) (N := N) (i := j) (by have := (nO_lt h2).2; omega)
        refine fun _ => ⟨show i + 0 ≤ pSk c N j + 1 by omega, show pSk c N j + 1 ≤ N by omega, ?_⟩
        show qCome q (sortO x) v w 0 117 42 + i ≤ q 117 42 + (pSk c N j + 1)
        rw [e]; omega
  · refine fun _ => ⟨show i + 0 ≤ i by omega, hi, ?_⟩
    show qCome q (sortO x) 0 0 0 117 42 + i ≤ q 117 42 + i
    rw [e]; omega
theorem pTk_i (c : Nat → Nat) (N x i : Nat) (q : Nat → Nat → Nat) (hi : i ≤ N) (hx : x < 128) : pI N 1 i q (pTk c N x i q) := by
  obtain ⟨hs1, hs2⟩ := pSk_le (c := c) hi
  unfold pTk
  by_cases h : pCh c N i = x
  · have hlt := pCh_lt (c := c) (N := N) (i := i) (by omega)
    rw [if_pos h]
    exact fun _ => ⟨show i + 1 ≤ pSk c N i + 1 by omega, show pSk c N i + 1 ≤ N by omega, show q 117 42 + i ≤ q 117 42 + (pSk c N i + 1) by omega⟩
  · rw [if_neg h]; exact pI_f
theorem pGo_i {N e i i0 e0 : Nat} {q q0 : Nat → Nat → Nat} {r : Bool × Nat × (Nat → Nat → Nat)} {k : Nat → (Nat → Nat → Nat) → Bool × Nat × (Nat → Nat → Nat)} (h : pI N e0 i0 q0 r) (hk : ∀ i' q', i0 + e0 ≤ i' → i' ≤ N → q' 117 42 + i0 ≤ q0 117 42 + i' → pI N e i q (k i' q')) : pI N e i q (pGo r k) := by
  unfold pGo
  by_cases hr : r.1 = true
  · rw [if_pos hr]
    obtain ⟨y1, y2, y3⟩ := h hr
    exact hk _ _ y1 y2 y3
  · rw [if_neg hr]
    exact fun h => absurd h hr
theorem pI_w {N e e' i i' : Nat} {q q' : Nat → Nat → Nat} {r : Bool × Nat × (Nat → Nat → Nat)} (h : pI N e' i' q' r) (h1 : i + e ≤ i' + e') (h2 : q' 117 42 + i ≤ q 117 42 + i') : pI N e i q r := fun hr => by
  obtain ⟨y1, y2, y3⟩ := h hr
  exact ⟨by omega, y2, by omega⟩
theorem pBlk_i (c : Nat → Nat) (N : Nat) : ∀ f k i q, i ≤ N → pI N 0 i q (pBlk c N f k i q) := by
  intro f
  induction f with
  | zero => intro k i q _; exact pI_f
  | succ f ih =>
    intro k i q hi
    obtain ⟨hs1, hs2⟩ := pSk_le (c := c) hi
    have eS : qSt q 117 42 = q 117 42 := qSt_r (by omega)
    unfold pBlk
    by_cases hb : isB (pCh c N i) = false
    · rw [if_pos hb]
      exact fun _ => ⟨show i + 0 ≤ pSk c N i by omega, hs2, show q 117 42 + i ≤ q 117 42 + pSk c N i by omega⟩
    · rw [if_neg hb]
      cases hv : vO (pCh c N i) with
      | some v =>
        have hlt := pCh_lt (c := c) (N := N) (i := i) (by have := vO_lt hv; omega)
        exact pGo_i (pVar_i c N v (pSk c N i + 1) (qSt q) (by omega)) (fun i' q' y1 y2 y3 => pI_w (ih k i' q' y2) (by omega) (by omega))
      | none =>
        show pI N 0 i q (@ite (Bool × Nat × (Nat → Nat → Nat)) (pCh c N i = 33) _ _ _)
        by_cases h33 : pCh c N i = 33
        · have hlt := pCh_lt (c := c) (N := N) (i := i) (by omega)
          rw [if_pos h33]
          exact pGo_i (pAl_i c N (pSk c N i) (pSk c N i + 1) (qSt q) (by omega)) (fun i' q' y1 y2 y3 => pI_w (ih k i' q' y2) (by omega) (by omega))
        · have hx := isB_t hb hv h33
          have hlt := pCh_lt (c := c) (N := N) (i := i) (by omega)
          rw [if_neg h33]
          refine pGo_i (pHd_i c N (pCh c N i) (pSk c N i + 1) (qSt q) (by omega)) (fun i1 q1 y1 y2 y3 => ?_)
          split
          · rename_i hs
            have lt1 := pCh_lt (c := c) (N := N) (i := i1) (by omega)
            obtain ⟨t1, t2⟩ := pSk_le (c := c) y2
            refine pGo_i (ih (k + 1) (pSk c N i1 + 1) q1 (by omega)) (fun i2 q2 z1 z2 z3 => ?_)
            refine pGo_i (pTk_i c N 125 i2 q2 z2 (by omega)) (fun i3 q3 w1 w2 w3 => ?_)
            split
            · have eC : qSec q3 (q 117 35) (sortO (pCh c N i)) 117 42 = q3 117 42 := by unfold qSec qMate; rw [zu_a (by omega), qCome_r (by omega) (by omega)]
              refine pGo_i (pTk_i c N 123 i3 _ w2 (by omega)) (fun i4 q4 v1 v2 v3 => ?_)
              refine pGo_i (ih (k + 1) i4 q4 v2) (fun i5 q5 u1 u2 u3 => ?_)
              refine pGo_i (pTk_i c N 125 i5 q5 u2 (by omega)) (fun i6 q6 s1 s2 s3 => ?_)
              have eE : qEnd q6 (q3 117 35) (sortO (pCh c N i)) 117 42 = q6 117 42 := by unfold qEnd qMate; rw [zu_a (by omega), zu_a (by omega), qCome_r (by omega) (by omega)]
              exact pI_w (ih k i6 _ s2) (by omega) (by omega)
            · have eE : qEnd q3 (q 117 35) (sortO (pCh c N i)) 117 42 = q3 117 42 := by unfold qEnd qMate; rw [zu_a (by omega), zu_a (by omega), qCome_r (by omega) (by omega)]
              exact pI_w (ih k i3 _ w2) (by omega) (by omega)
          · exact pI_f

/-! PROGRAMS: what is read stays -/
set_option maxRecDepth 100000
def qK (q q' : Nat → Nat → Nat) : Prop := (q 117 35 ≤ q' 117 35 ∧ q 117 44 ≤ q' 117 44 ∧ q 117 48 ≤ q' 117 48 ∧ q 117 42 ≤ q' 117 42 ∧ q 35 8 ≤ q' 35 8) ∧ (∀ s, s < q 117 35 → q' 138 s = q 138 s ∧ q' 139 s = q 139 s ∧ q' 140 s = q 140 s ∧ q' 141 s = q 141 s ∧ q' 142 s = q 142 s ∧ q' 1000 s = q 1000 s) ∧ (∀ s, s < q 117 44 → q' 144 s = q 144 s ∧ q' 145 s = q 145 s ∧ q' 146 s = q 146 s) ∧ (∀ s, s < q 117 48 → q' 120 s = q 120 s) ∧ (∀ s, s < q 117 42 → q' 143 s = q 143 s) ∧ ∀ s, s < q 35 8 → q' 38 s = q 38 s
theorem qK_r (q : Nat → Nat → Nat) : qK q q := ⟨⟨Nat.le_refl _, Nat.le_refl _, Nat.le_refl _, Nat.le_refl _, Nat.le_refl _⟩, fun _ _ => ⟨rfl, rfl, rfl, rfl, rfl, rfl⟩, fun _ _ => ⟨rfl, rfl, rfl⟩, fun _ _ => rfl, fun _ _ => rfl, fun _ _ => rfl⟩
theorem qK_t {q q1 q2 : Nat → Nat → Nat} (h : qK q q1) (h' : qK q1 q2) : qK q q2 := by
  obtain ⟨⟨a1, a2, a3, a4, a5⟩, a6, a7, a8, a9, a10⟩ := h
  obtain ⟨⟨b1, b2, b3, b4, b5⟩, b6, b7, b8, b9, b10⟩ := h'
  refine ⟨⟨by omega, by omega, by omega, by omega, by omega⟩, fun s hs => ?_, fun s hs => ?_, fun s hs => ?_, fun s hs => ?_, fun s hs => ?_⟩
  · obtain ⟨x1, x2, x3, x4, x5, x6⟩ := a6 s hs
    obtain ⟨y1, y2, y3, y4, y5, y6⟩ := b6 s (by omega)
    exact ⟨y1.trans x1, y2.trans x2, y3.trans x3, y4.trans x4, y5.trans x5, y6.trans x6⟩
  · obtain ⟨x1, x2, x3⟩ := a7 s hs
    obtain ⟨y1, y2, y3⟩ := b7 s (by omega)
    exact ⟨y1.trans x1, y2.trans x2, y3.trans x3⟩
  · exact (b8 s (by omega)).trans (a8 s hs)
  · exact (b9 s (by omega)).trans (a9 s hs)
  · exact (b10 s (by omega)).trans (a10 s hs)
theorem qK_come {q : Nat → Nat → Nat} {s a b c : Nat} : qK q (qCome q s a b c) := by
  unfold qCome
  refine ⟨⟨?_, ?_, ?_, ?_, ?_⟩, fun s hs => ?_, fun s hs => ?_, fun s hs => ?_, fun s hs => ?_, fun s hs => ?_⟩
  all_goals simp (disch := omega) only [zu_a, zu_k, zu_at]
  all_goals first | omega | trivial | skip
  all_goals exact ⟨trivial, trivial, trivial, trivial, trivial, trivial⟩
theorem qK_part {q : Nat → Nat → Nat} {s a b : Nat} : qK q (qPart q s a b) := by
  unfold qPart
  refine ⟨⟨?_, ?_, ?_, ?_, ?_⟩, fun s hs => ?_, fun s hs => ?_, fun s hs => ?_, fun s hs => ?_, fun s hs => ?_⟩
  all_goals simp (disch := omega) only [zu_a, zu_k, zu_at]
  all_goals first | omega | trivial | skip
  all_goals first | exact ⟨trivial, trivial, trivial, trivial, trivial, trivial⟩ | exact ⟨trivial, trivial, trivial⟩
theorem qK_told {q : Nat → Nat → Nat} {l : Nat} : qK q (qTold q l) := by
  unfold qTold
  refine ⟨⟨?_, ?_, ?_, ?_, ?_⟩, fun s hs => ?_, fun s hs => ?_, fun s hs => ?_, fun s hs => ?_, fun s hs => ?_⟩
  all_goals simp (disch := omega) only [zu_a, zu_k, zu_at]
  all_goals first | omega | trivial | skip
  all_goals first | exact ⟨trivial, trivial, trivial, trivial, trivial, trivial⟩ | exact ⟨trivial, trivial, trivial⟩
theorem qK_code {q : Nat → Nat → Nat} {l : Nat} : qK q (qCode q l) := by
  unfold qCode
  refine ⟨⟨?_, ?_, ?_, ?_, ?_⟩, fun s hs => ?_, fun s hs => ?_, fun s hs => ?_, fun s hs => ?_, fun s hs => ?_⟩
  all_goals simp (disch := omega) only [zu_a, zu_k, zu_at]
  all_goals first | omega | trivial | skip
  all_goals first | exact ⟨trivial, trivial, trivial, trivial, trivial, trivial⟩ | exact ⟨trivial, trivial, trivial⟩
theorem qK_st {q : Nat → Nat → Nat} : qK q (qSt q) := by
  unfold qSt
  refine ⟨⟨?_, ?_, ?_, ?_, ?_⟩, fun s hs => ?_, fun s hs => ?_, fun s hs => ?_, fun s hs => ?_, fun s hs => ?_⟩
  all_goals simp (disch := omega) only [zu_a, zu_k, zu_at]
  all_goals first | omega | trivial | skip
  all_goals first | exact ⟨trivial, trivial, trivial, trivial, trivial, trivial⟩ | exact ⟨trivial, trivial, trivial⟩
theorem qK_mate {q q' : Nat → Nat → Nat} {s m : Nat} (h : qK q q') (hs : q 117 35 ≤ s) : qK q (qMate q' s m) := by
  unfold qMate
  obtain ⟨⟨a1, a2, a3, a4, a5⟩, a6, a7, a8, a9, a10⟩ := h
  refine ⟨⟨?_, ?_, ?_, ?_, ?_⟩, fun k hk => ?_, fun k hk => ?_, fun k hk => ?_, fun k hk => ?_, fun k hk => ?_⟩
  all_goals simp (disch := omega) only [zu_a, zu_k, zu_at]
  · exact a1
  · exact a2
  · exact a3
  · exact a4
  · exact a5
  · exact a6 k hk
  · exact a7 k hk
  · exact a8 k hk
  · exact a9 k hk
  · exact a10 k hk
theorem qK_1000 {q q' : Nat → Nat → Nat} {s m : Nat} (h : qK q q') (hs : q 117 35 ≤ s) : qK q (ju q' 1000 s m) := by
  obtain ⟨⟨a1, a2, a3, a4, a5⟩, a6, a7, a8, a9, a10⟩ := h
  refine ⟨⟨?_, ?_, ?_, ?_, ?_⟩, fun k hk => ?_, fun k hk => ?_, fun k hk => ?_, fun k hk => ?_, fun k hk => ?_⟩
  all_goals simp (disch := omega) only [zu_a, zu_k, zu_at]
  · exact a1
  · exact a2
  · exact a3
  · exact a4
  · exact a5
  · exact a6 k hk
  · exact a7 k hk
  · exact a8 k hk
  · exact a9 k hk
  · exact a10 k hk
theorem qK_al {q : Nat → Nat → Nat} {a0 v w : Nat} : qK q (ju (qCome (ju q 143 (q 117 42) a0) 3 v w (q 117 42)) 117 42 (q 117 42 + 1)) := by
  have e35 : ju q 143 (q 117 42) a0 117 35 = q 117 35 := zu_a (by omega)
  unfold qCome
  rw [e35]
  refine ⟨⟨?_, ?_, ?_, ?_, ?_⟩, fun s hs => ?_, fun s hs => ?_, fun s hs => ?_, fun s hs => ?_, fun s hs => ?_⟩
  all_goals simp (disch := omega) only [zu_a, zu_k, zu_at]
  all_goals first | omega | trivial | skip
  all_goals first | exact ⟨trivial, trivial, trivial, trivial, trivial, trivial⟩ | exact ⟨trivial, trivial, trivial⟩
theorem pLet_K (c : Nat → Nat) (N : Nat) : ∀ f i q, qK q (pLet c N f i q).2.2 := by
  intro f
  induction f with
  | zero => intro i q; exact qK_r q
  | succ f ih =>
    intro i q
    unfold pLet
    by_cases h : pCh c N i = 39
    · rw [if_pos h]; exact qK_code
    · rw [if_neg h]
      cases lO3 (pCh c N i) with
      | none => exact qK_r q
      | some l => exact qK_t (qK_t qK_told qK_code) (ih _ _)
theorem pPts_K (c : Nat → Nat) (N fr : Nat) : ∀ f i q, qK q (pPts c N fr f i q).2.2 := by
  intro f
  induction f with
  | zero => intro i q; exact qK_r q
  | succ f ih =>
    intro i q
    unfold pPts
    by_cases h : pCh c N i = 39
    · rw [if_pos h]
      have hl := pLet_K c N (N + 1) (pSk c N i + 1) (qCode q 39)
      rcases hp : pLet c N (N + 1) (pSk c N i + 1) (qCode q 39) with ⟨b, i', q'⟩
      rw [hp] at hl
      cases b
      · exact qK_t qK_code hl
      · exact qK_t (qK_t (qK_t qK_code hl) qK_part) (ih _ _)
    · rw [if_neg h]
      by_cases h2 : 48 ≤ pCh c N i ∧ pCh c N i ≤ 51
      · rw [if_pos h2]; exact qK_t (qK_t qK_part qK_code) (ih _ _)
      · rw [if_neg h2]
        by_cases h3 : pCh c N i = 59 ∧ fr < q 117 44
        · rw [if_pos h3]; exact qK_code
        · rw [if_neg h3]
          cases vO (pCh c N i) with
          | none => exact qK_r q
          | some v => exact qK_t (qK_t qK_part qK_code) (ih _ _)
theorem pVar_K (c : Nat → Nat) (N v i : Nat) (q : Nat → Nat → Nat) : qK q (pVar c N v i q).2.2 := by
  unfold pVar
  by_cases h : pCh c N i = 61
  · rw [if_pos h]
    have hl := pPts_K c N (q 117 44) (N + 1) (pSk c N i + 1) q
    rcases hp : pPts c N (q 117 44) (N + 1) (pSk c N i + 1) q with ⟨b, i', q'⟩
    rw [hp] at hl
    cases b
    · exact hl
    · exact qK_1000 (qK_t hl qK_come) (Nat.le_refl _)
  · rw [if_neg h]
    by_cases h2 : pCh c N i = 47
    · rw [if_pos h2]
      cases nO 2 (pCh c N (pSk c N i + 1)) with
      | none => exact qK_r q
      | some a =>
        show qK q (match nO 3 (pCh c N (pSk c N (pSk c N i + 1) + 1)) with
          | none => (false, pSk c N (pSk c N (pSk c N i + 1) + 1), q)
          | some b => if pCh c N (pSk c N (pSk c N (pSk c N i + 1) + 1) + 1) = 59 then (true, pSk c N (pSk c N (pSk c N (pSk c N i + 1) + 1) + 1) + 1, qCome q 2 v a b) else (false, pSk c N (pSk c N (pSk c N (pSk c N i + 1) + 1) + 1), q)).2.2
        cases nO 3 (pCh c N (pSk c N (pSk c N i + 1) + 1)) with
        | none => exact qK_r q
        | some b =>
          show qK q (if pCh c N (pSk c N (pSk c N (pSk c N i + 1) + 1) + 1) = 59 then (true, pSk c N (pSk c N (pSk c N (pSk c N i + 1) + 1) + 1) + 1, qCome q 2 v a b) else (false, pSk c N (pSk c N (pSk c N (pSk c N i + 1) + 1) + 1), q)).2.2
          split
          · exact qK_come
          · exact qK_r q
    · rw [if_neg h2]; exact qK_r q
theorem pAl_K (c : Nat → Nat) (N a0 i : Nat) (q : Nat → Nat → Nat) : qK q (pAl c N a0 i q).2.2 := by
  unfold pAl
  cases nO 0 (pCh c N i) with
  | none => exact qK_r q
  | some v =>
    show qK q (match nO 1 (pCh c N (pSk c N i + 1)) with
      | none => (false, pSk c N (pSk c N i + 1), q)
      | some w => if pCh c N (pSk c N (pSk c N i + 1) + 1) = 59 then (true, pSk c N (pSk c N (pSk c N i + 1) + 1) + 1, ju (qCome (ju q 143 (q 117 42) a0) 3 v w (q 117 42)) 117 42 (q 117 42 + 1)) else (false, pSk c N (pSk c N (pSk c N i + 1) + 1), q)).2.2
    cases nO 1 (pCh c N (pSk c N i + 1)) with
    | none => exact qK_r q
    | some w =>
      show qK q (if pCh c N (pSk c N (pSk c N i + 1) + 1) = 59 then (true, pSk c N (pSk c N (pSk c N i + 1) + 1) + 1, ju (qCome (ju q 143 (q 117 42) a0) 3 v w (q 117 42)) 117 42 (q 117 42 + 1)) else (false, pSk c N (pSk c N (pSk c N i + 1) + 1), q)).2.2
      split
      · exact qK_al
      · exact qK_r q
theorem pHd_K (c : Nat → Nat) (N x i : Nat) (q : Nat → Nat → Nat) : qK q (pHd c N x i q).2.2 := by
  unfold pHd
  split
  · cases nO 0 (pCh c N i) with
    | none => exact qK_r q
    | some v =>
      show qK q (match nO 1 (pCh c N (pSk c N i + 1)) with
        | none => (false, pSk c N (pSk c N i + 1), q)
        | some w => (true, pSk c N (pSk c N i + 1) + 1, qCome q (sortO x) v w 0)).2.2
      cases nO 1 (pCh c N (pSk c N i + 1)) with
      | none => exact qK_r q
      | some w => exact qK_come
  · exact qK_come
theorem pGo_K {q : Nat → Nat → Nat} {r : Bool × Nat × (Nat → Nat → Nat)} {k : Nat → (Nat → Nat → Nat) → Bool × Nat × (Nat → Nat → Nat)} (h : qK q r.2.2) (hk : ∀ i', r = (true, i', r.2.2) → qK q (k i' r.2.2).2.2) : qK q (pGo r k).2.2 := by
  unfold pGo
  by_cases hr : r.1 = true
  · rw [if_pos hr]
    exact hk r.2.1 (by rcases r with ⟨a, b, c⟩; simp only at hr; rw [hr])
  · rw [if_neg hr]; exact h
theorem pTk_q (c : Nat → Nat) (N x i : Nat) (q : Nat → Nat → Nat) : (pTk c N x i q).2.2 = q := by
  unfold pTk
  split <;> rfl
theorem pBlk_K (c : Nat → Nat) (N : Nat) : ∀ f k i q, qK q (pBlk c N f k i q).2.2 := by
  intro f
  induction f with
  | zero => intro k i q; exact qK_r q
  | succ f ih =>
    intro k i q
    unfold pBlk
    by_cases hb : isB (pCh c N i) = false
    · rw [if_pos hb]; exact qK_r q
    · rw [if_neg hb]
      cases vO (pCh c N i) with
      | some v =>
        have h1 := qK_t qK_st (pVar_K c N v (pSk c N i + 1) (qSt q))
        exact pGo_K h1 (fun i' _ => qK_t h1 (ih _ _ _))
      | none =>
        show qK q (@ite (Bool × Nat × (Nat → Nat → Nat)) (pCh c N i = 33) _ _ _).2.2
        by_cases h33 : pCh c N i = 33
        · rw [if_pos h33]
          have h1 := qK_t qK_st (pAl_K c N (pSk c N i) (pSk c N i + 1) (qSt q))
          exact pGo_K h1 (fun i' _ => qK_t h1 (ih _ _ _))
        · rw [if_neg h33]
          have h1 := qK_t qK_st (pHd_K c N (pCh c N i) (pSk c N i + 1) (qSt q))
          refine pGo_K h1 (fun i1 _ => ?_)
          generalize (pHd c N (pCh c N i) (pSk c N i + 1) (qSt q)).2.2 = q1 at h1
          split
          · have h2 := qK_t h1 (ih (k + 1) (pSk c N i1 + 1) q1)
            refine pGo_K h2 (fun i2 _ => ?_)
            generalize (pBlk c N f (k + 1) (pSk c N i1 + 1) q1).2.2 = q2 at h2
            refine pGo_K (by rw [pTk_q]; exact h2) (fun i3 _ => ?_)
            rw [pTk_q]
            have h21 := h2.1.1
            split
            · have h3 : qK q (qSec q2 (q 117 35) (sortO (pCh c N i))) := qK_mate (qK_t h2 qK_come) (Nat.le_refl _)
              refine pGo_K (by rw [pTk_q]; exact h3) (fun i4 _ => ?_)
              rw [pTk_q]
              have h4 := qK_t h3 (ih (k + 1) i4 (qSec q2 (q 117 35) (sortO (pCh c N i))))
              refine pGo_K h4 (fun i5 _ => ?_)
              generalize (pBlk c N f (k + 1) i4 (qSec q2 (q 117 35) (sortO (pCh c N i)))).2.2 = q5 at h4
              have h41 := h4.1.1
              refine pGo_K (by rw [pTk_q]; exact h4) (fun i6 _ => ?_)
              rw [pTk_q]
              exact qK_t (qK_mate (qK_mate (qK_t h4 qK_come) h21) h41) (ih _ _ _)
            · exact qK_t (qK_mate (qK_mate (qK_t h2 qK_come) (Nat.le_refl _)) h21) (ih _ _ _)
          · exact h1

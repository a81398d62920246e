/-! PROGRAMS: what the parts and steps of a read program are -/
set_option maxRecDepth 100000
def vS (v : Nat) : Nat := if v = 0 then 117 else if v = 1 then 118 else if v = 2 then 120 else 121
theorem vO_S {x v : Nat} (h : vO x = some v) : x = vS v := by
  unfold vO at h
  unfold vS
  repeat' split at h
  all_goals first | cases h | skip
  all_goals first | assumption | skip
/-- the parts k to e stand in the code from p on -/
def cd (q : Nat → Nat → Nat) : Nat → Nat → Nat → Nat → Prop
  | 0, _, _, _ => False
  | f + 1, p, k, e => p < q 35 8 ∧ ((k = e ∧ q 38 p = 59) ∨ (k < e ∧ k < q 117 44 ∧ ((q 144 k = 0 ∧ q 145 k < 4 ∧ q 38 p = vS (q 145 k) ∧ cd q f (p + 1) (k + 1) e) ∨ (q 144 k = 2 ∧ q 145 k < 4 ∧ q 38 p = 48 + q 145 k ∧ cd q f (p + 1) (k + 1) e) ∨ (q 144 k = 1 ∧ q 38 p = 39 ∧ q 145 k + q 146 k ≤ q 117 48 ∧ (∀ j, j < q 146 k → q 120 (q 145 k + j) < 3 ∧ q 38 (p + 1 + j) = 97 + q 120 (q 145 k + j)) ∧ q 38 (p + 1 + q 146 k) = 39 ∧ cd q f (p + q 146 k + 2) (k + 1) e))))
/-- parts, letters, code and alarms stay -/
def qP (q q' : Nat → Nat → Nat) : Prop := (q 117 44 ≤ q' 117 44 ∧ q 117 48 ≤ q' 117 48 ∧ q 117 42 ≤ q' 117 42 ∧ q 35 8 ≤ q' 35 8) ∧ (∀ s, s < q 117 44 → q' 144 s = q 144 s ∧ q' 145 s = q 145 s ∧ q' 146 s = q 146 s) ∧ (∀ s, s < q 117 48 → q' 120 s = q 120 s) ∧ ∀ s, s < q 35 8 → q' 38 s = q 38 s
theorem qK_P {q q' : Nat → Nat → Nat} (h : qK q q') : qP q q' := ⟨⟨h.1.2.1, h.1.2.2.1, h.1.2.2.2.1, h.1.2.2.2.2⟩, h.2.2.1, h.2.2.2.1, h.2.2.2.2.2⟩
theorem qP_t {q q1 q2 : Nat → Nat → Nat} (h : qP q q1) (h' : qP q1 q2) : qP q q2 := by
  obtain ⟨⟨a2, a3, a4, a5⟩, a7, a8, a10⟩ := h
  obtain ⟨⟨b2, b3, b4, b5⟩, b7, b8, b10⟩ := h'
  refine ⟨⟨by omega, by omega, by omega, by omega⟩, fun s hs => ?_, fun s hs => ?_, fun s hs => ?_⟩
  · obtain ⟨x1, x2, x3⟩ := a7 s hs
    obtain ⟨y1, y2, y3⟩ := b7 s (by omega)
    exact ⟨y1.trans x1, y2.trans x2, y3.trans x3⟩
  · exact (b8 s (by omega)).trans (a8 s hs)
  · exact (b10 s (by omega)).trans (a10 s hs)
theorem cd_lt {q : Nat → Nat → Nat} {f p k e : Nat} (h : cd q f p k e) : p < q 35 8 := by
  cases f with
  | zero => exact h.elim
  | succ f => exact h.1
theorem cd_q {q q' : Nat → Nat → Nat} (hP : qP q q') : ∀ f p k e, cd q f p k e → cd q' f p k e := by
  obtain ⟨⟨a2, a3, a4, a5⟩, a7, a8, a10⟩ := hP
  intro f
  induction f with
  | zero => intro p k e h; exact h
  | succ f ih =>
    intro p k e h
    obtain ⟨hp, h⟩ := h
    refine ⟨by omega, ?_⟩
    rcases h with ⟨h1, h2⟩ | ⟨h1, h2, h⟩
    · exact Or.inl ⟨h1, by rw [a10 p hp]; exact h2⟩
    · obtain ⟨z1, z2, z3⟩ := a7 k h2
      refine Or.inr ⟨h1, by omega, ?_⟩
      rw [z1, z2, z3, a10 p hp]
      rcases h with ⟨y1, y2, y3, y4⟩ | ⟨y1, y2, y3, y4⟩ | ⟨y1, y2, y3, y4, y5, y6⟩
      · exact Or.inl ⟨y1, y2, y3, ih _ _ _ y4⟩
      · exact Or.inr (Or.inl ⟨y1, y2, y3, ih _ _ _ y4⟩)
      · have hl := cd_lt y6
        refine Or.inr (Or.inr ⟨y1, y2, by omega, fun j hj => ?_, by rw [a10 _ (by omega)]; exact y5, ih _ _ _ y6⟩)
        rw [a8 _ (by omega), a10 _ (by omega)]
        exact y4 j hj
theorem pLet_c (c : Nat → Nat) (N : Nat) : ∀ f i q i' q', pLet c N f i q = (true, i', q') → q 117 48 ≤ q' 117 48 ∧ q' 35 8 = q 35 8 + (q' 117 48 - q 117 48) + 1 ∧ (∀ j, j < q' 117 48 - q 117 48 → q' 120 (q 117 48 + j) < 3 ∧ q' 38 (q 35 8 + j) = 97 + q' 120 (q 117 48 + j)) ∧ q' 38 (q 35 8 + (q' 117 48 - q 117 48)) = 39 := by
  intro f
  induction f with
  | zero => intro i q i' q' h; cases h
  | succ f ih =>
    intro i q i' q' h
    unfold pLet at h
    by_cases h39 : pCh c N i = 39
    · rw [if_pos h39] at h
      cases h
      have e48 : qCode q 39 117 48 = q 117 48 := qCode_r (by omega) (by omega)
      refine ⟨by omega, ?_, fun j hj => by omega, ?_⟩
      · rw [e48, Nat.sub_self]; unfold qCode; rw [zu_at]
      · rw [e48, Nat.sub_self]; unfold qCode; rw [zu_a (by omega), Nat.add_zero, zu_at]
    · rw [if_neg h39] at h
      cases hl : lO3 (pCh c N i) with
      | none => rw [hl] at h; cases h
      | some l =>
        rw [hl] at h
        have hx : l < 3 ∧ pCh c N i = 97 + l := by
          have hb := lO3_lt hl
          unfold lO3 at hl
          rw [if_pos ⟨hb.2.1, hb.2.2⟩] at hl
          cases hl
          omega
        have hK := pLet_K c N f (pSk c N i + 1) (qCode (qTold q l) (pCh c N i))
        rw [show pLet c N f (pSk c N i + 1) (qCode (qTold q l) (pCh c N i)) = (true, i', q') from h] at hK
        have hK' : qK (qCode (qTold q l) (pCh c N i)) q' := hK
        obtain ⟨y1, y2, y3, y4⟩ := ih _ _ _ _ h
        have e48 : qCode (qTold q l) (pCh c N i) 117 48 = q 117 48 + 1 := by rw [qCode_r (by omega) (by omega), qTold_48]
        have e8' : qTold q l 35 8 = q 35 8 := by unfold qTold; rw [zu_a (by omega), zu_a (by omega)]
        have e8 : qCode (qTold q l) (pCh c N i) 35 8 = q 35 8 + 1 := by unfold qCode; rw [zu_at, e8']
        have t0 : q' 120 (q 117 48) = l := by
          rw [hK'.2.2.2.1 _ (by omega), qCode_r (by omega) (by omega)]
          unfold qTold
          rw [zu_a (by omega), zu_at]
        have c0 : q' 38 (q 35 8) = 97 + l := by
          rw [hK'.2.2.2.2.2 _ (by omega)]
          unfold qCode
          rw [zu_a (by omega), e8', zu_at]
          exact hx.2
        rw [e48] at y1 y2 y3 y4
        rw [e8] at y2 y3 y4
        refine ⟨by omega, by omega, fun j hj => ?_, ?_⟩
        · cases j with
          | zero => rw [Nat.add_zero, Nat.add_zero, t0, c0]; exact ⟨hx.1, rfl⟩
          | succ j =>
            have := y3 j (by omega)
            rw [show q 117 48 + (j + 1) = q 117 48 + 1 + j by omega, show q 35 8 + (j + 1) = q 35 8 + 1 + j by omega]
            exact this
        · rw [show q 35 8 + (q' 117 48 - q 117 48) = q 35 8 + 1 + (q' 117 48 - (q 117 48 + 1)) by omega]
          exact y4
theorem qPart_at (q : Nat → Nat → Nat) (s a b : Nat) : qPart q s a b 144 (q 117 44) = s ∧ qPart q s a b 145 (q 117 44) = a ∧ qPart q s a b 146 (q 117 44) = b ∧ qPart q s a b 117 44 = q 117 44 + 1 := by
  unfold qPart
  refine ⟨?_, ?_, ?_, ?_⟩ <;> simp (disch := omega) only [zu_a, zu_at]
theorem qPart_r {q : Nat → Nat → Nat} {s a b a' k : Nat} (h : ¬ (144 ≤ a' ∧ a' ≤ 146)) (h' : ¬ (a' = 117 ∧ k = 44)) : qPart q s a b a' k = q a' k := by unfold qPart; rw [ju_ne (by omega), ju_ne (by omega), ju_ne (by omega), ju_ne (by omega)]
theorem pPts_c (c : Nat → Nat) (N fr : Nat) : ∀ f i q i' q', pPts c N fr f i q = (true, i', q') → cd q' f (q 35 8) (q 117 44) (q' 117 44) ∧ (q 117 44 ≤ fr → q 117 44 < q' 117 44) := by
  intro f
  induction f with
  | zero => intro i q i' q' h; cases h
  | succ f ih =>
    intro i q i' q' h
    unfold pPts at h
    have hc8 : ∀ (q : Nat → Nat → Nat) x, qCode q x 35 8 = q 35 8 + 1 := fun q x => by unfold qCode; rw [zu_at]
    have hc38 : ∀ (q : Nat → Nat → Nat) x, qCode q x 38 (q 35 8) = x := fun q x => by unfold qCode; rw [zu_a (by omega), zu_at]
    by_cases h39 : pCh c N i = 39
    · rw [if_pos h39] at h
      rcases hp : pLet c N (N + 1) (pSk c N i + 1) (qCode q 39) with ⟨b, i1, q1⟩
      rw [hp] at h
      cases b
      · cases h
      · have h' : pPts c N fr f i1 (qPart q1 1 (q 117 48) (q1 117 48 - q 117 48)) = (true, i', q') := h
        have hK := pPts_K c N fr f i1 (qPart q1 1 (q 117 48) (q1 117 48 - q 117 48))
        rw [h'] at hK
        have hK' : qK (qPart q1 1 (q 117 48) (q1 117 48 - q 117 48)) q' := hK
        have hL := pLet_K c N (N + 1) (pSk c N i + 1) (qCode q 39)
        rw [hp] at hL
        have hL' : qK (qCode q 39) q1 := hL
        have l44 := pLet_44 c N (N + 1) (pSk c N i + 1) (qCode q 39)
        rw [hp, qCode_r (by omega) (by omega)] at l44
        have l44' : q1 117 44 = q 117 44 := l44
        obtain ⟨z1, z2, z3, z4⟩ := pLet_c c N _ _ _ _ _ hp
        rw [hc8] at z2 z3 z4
        rw [qCode_r (by omega) (by omega)] at z1 z2 z3 z4
        obtain ⟨p1, p2, p3, p4⟩ := qPart_at q1 1 (q 117 48) (q1 117 48 - q 117 48)
        have p8 : qPart q1 1 (q 117 48) (q1 117 48 - q 117 48) 35 8 = q1 35 8 := qPart_r (by omega) (by omega)
        have p48 : qPart q1 1 (q 117 48) (q1 117 48 - q 117 48) 117 48 = q1 117 48 := qPart_r (by omega) (by omega)
        rw [l44'] at p1 p2 p3 p4
        obtain ⟨y1, y2⟩ := ih _ _ _ _ h'
        rw [p8, p4] at y1
        have g44 := hK'.1.2.1
        have g8 := hK'.1.2.2.2.2
        have g48 := hK'.1.2.2.1
        rw [p4] at g44
        rw [p8] at g8
        rw [p48] at g48
        obtain ⟨w1, w2, w3⟩ := hK'.2.2.1 (q 117 44) (by omega)
        rw [p1] at w1
        rw [p2] at w2
        rw [p3] at w3
        have k38 : ∀ j, j < q1 35 8 → q' 38 j = q1 38 j := fun j hj => (hK'.2.2.2.2.2 j (by omega)).trans (qPart_r (by omega) (by omega))
        have k120 : ∀ j, j < q1 117 48 → q' 120 j = q1 120 j := fun j hj => (hK'.2.2.2.1 j (by omega)).trans (qPart_r (by omega) (by omega))
        have first : q' 38 (q 35 8) = 39 := by
          rw [k38 _ (by omega), hL'.2.2.2.2.2 _ (by rw [hc8]; omega), hc38]
        refine ⟨⟨by omega, Or.inr ⟨by omega, by omega, Or.inr (Or.inr ?_)⟩⟩, fun _ => by omega⟩
        rw [w1, w2, w3]
        refine ⟨rfl, first, by omega, fun j hj => ?_, ?_, ?_⟩
        · rw [k120 _ (by omega), k38 _ (by omega)]; exact z3 j hj
        · rw [k38 _ (by omega)]; exact z4
        · rw [show q 35 8 + (q1 117 48 - q 117 48) + 2 = q1 35 8 by omega]; exact y1
    · rw [if_neg h39] at h
      -- one sign: a digit or a variable
      have go : ∀ s w, pPts c N fr f (pSk c N i + 1) (qCode (qPart q s w 0) (pCh c N i)) = (true, i', q') → w < 4 → ((s = 0 ∧ pCh c N i = vS w) ∨ (s = 2 ∧ pCh c N i = 48 + w)) → cd q' (f + 1) (q 35 8) (q 117 44) (q' 117 44) ∧ (q 117 44 ≤ fr → q 117 44 < q' 117 44) := by
        intro s w h' hw hs
        have hK := pPts_K c N fr f (pSk c N i + 1) (qCode (qPart q s w 0) (pCh c N i))
        rw [h'] at hK
        have hK' : qK (qCode (qPart q s w 0) (pCh c N i)) q' := hK
        obtain ⟨p1, p2, p3, p4⟩ := qPart_at q s w 0
        have p8 : qPart q s w 0 35 8 = q 35 8 := qPart_r (by omega) (by omega)
        have c44 : qCode (qPart q s w 0) (pCh c N i) 117 44 = q 117 44 + 1 := by rw [qCode_r (by omega) (by omega), p4]
        have c8 : qCode (qPart q s w 0) (pCh c N i) 35 8 = q 35 8 + 1 := by rw [hc8, p8]
        obtain ⟨y1, y2⟩ := ih _ _ _ _ h'
        rw [c8, c44] at y1
        have g44 := hK'.1.2.1
        have g8 := hK'.1.2.2.2.2
        rw [c44] at g44
        rw [c8] at g8
        obtain ⟨w1, w2, w3⟩ := hK'.2.2.1 (q 117 44) (by omega)
        rw [qCode_r (by omega) (by omega), p1] at w1
        rw [qCode_r (by omega) (by omega), p2] at w2
        have first : q' 38 (q 35 8) = pCh c N i := by
          rw [hK'.2.2.2.2.2 _ (by omega), ← p8, hc38]
        refine ⟨⟨by omega, Or.inr ⟨by omega, by omega, ?_⟩⟩, fun _ => by omega⟩
        rw [w1, w2, first]
        rcases hs with ⟨e1, e2⟩ | ⟨e1, e2⟩
        · exact Or.inl ⟨e1, hw, e2, y1⟩
        · exact Or.inr (Or.inl ⟨e1, hw, e2, y1⟩)
      by_cases h2 : 48 ≤ pCh c N i ∧ pCh c N i ≤ 51
      · rw [if_pos h2] at h
        exact go 2 _ h (by omega) (Or.inr ⟨rfl, by omega⟩)
      · rw [if_neg h2] at h
        by_cases h3 : pCh c N i = 59 ∧ fr < q 117 44
        · rw [if_pos h3] at h
          cases h
          have e44 : qCode q 59 117 44 = q 117 44 := qCode_r (by omega) (by omega)
          refine ⟨⟨by rw [hc8]; omega, Or.inl ⟨e44.symm, hc38 q 59⟩⟩, fun h => by omega⟩
        · rw [if_neg h3] at h
          cases hv : vO (pCh c N i) with
          | none => rw [hv] at h; cases h
          | some v =>
            rw [hv] at h
            exact go 0 v h (vO_lt hv).1 (Or.inl ⟨rfl, vO_S hv⟩)
/-- the values of step a are where they may be -/
def bS (q : Nat → Nat → Nat) (a : Nat) : Prop := (q 138 a = 1 → q 141 a < 4 ∧ q 139 a < q 140 a ∧ q 140 a ≤ q 117 44 ∧ ∃ f, cd q f (q 1000 a) (q 139 a) (q 140 a)) ∧ (q 138 a = 2 → q 139 a < 4 ∧ q 140 a < 3 ∧ q 141 a ≤ 3) ∧ (q 138 a = 3 → q 139 a < 4 ∧ q 140 a < 4 ∧ q 141 a < q 117 42) ∧ (q 138 a = 4 ∨ q 138 a = 6 → q 139 a < 4 ∧ q 140 a < 4)
/-- step a is seen alike -/
def qE (q q' : Nat → Nat → Nat) (a : Nat) : Prop := q' 138 a = q 138 a ∧ q' 139 a = q 139 a ∧ q' 140 a = q 140 a ∧ q' 141 a = q 141 a ∧ q' 142 a = q 142 a ∧ q' 1000 a = q 1000 a
theorem bS_q {q q' : Nat → Nat → Nat} {a : Nat} (hP : qP q q') (h1 : q' 138 a = q 138 a ∧ q' 139 a = q 139 a ∧ q' 140 a = q 140 a ∧ q' 141 a = q 141 a ∧ q' 1000 a = q 1000 a) (h : bS q a) : bS q' a := by
  obtain ⟨e1, e2, e3, e4, e6⟩ := h1
  obtain ⟨h1, h2, h3, h4⟩ := h
  unfold bS
  rw [e1, e2, e3, e4, e6]
  refine ⟨fun hk => ?_, h2, fun hk => ?_, h4⟩
  · obtain ⟨y1, y2, y3, f, y4⟩ := h1 hk
    exact ⟨y1, y2, Nat.le_trans y3 hP.1.1, f, cd_q hP _ _ _ _ y4⟩
  · obtain ⟨y1, y2, y3⟩ := h3 hk
    exact ⟨y1, y2, Nat.lt_of_lt_of_le y3 hP.1.2.2.1⟩
theorem nS_q {q q' : Nat → Nat → Nat} {I : Nat → Nat → Int32} {n a : Nat} (h1 : q' 138 a = q 138 a ∧ q' 139 a = q 139 a ∧ q' 140 a = q 140 a ∧ q' 141 a = q 141 a ∧ q' 1000 a = q 1000 a) (h : nS q I n a) : nS q' I n a := by
  obtain ⟨e1, e2, e3, e4, e6⟩ := h1
  unfold nS
  rw [e1, e2, e3, e4, e6]
  exact h
theorem pVar_b (c : Nat → Nat) (N v i : Nat) (q : Nat → Nat → Nat) (i' : Nat) (q' : Nat → Nat → Nat) (hv : v < 4) (h : pVar c N v i q = (true, i', q')) : bS q' (q 117 35) ∧ 1 ≤ q' 138 (q 117 35) ∧ q' 138 (q 117 35) ≤ 3 ∧ q' 117 35 = q 117 35 + 1 := by
  unfold pVar at h
  by_cases h61 : pCh c N i = 61
  · rw [if_pos h61] at h
    rcases hp : pPts c N (q 117 44) (N + 1) (pSk c N i + 1) q with ⟨b, i1, q1⟩
    rw [hp] at h
    cases b
    · cases h
    · cases h
      obtain ⟨y1, y2⟩ := pPts_c c N _ _ _ _ _ _ hp
      have e35 := pPts_35 c N (q 117 44) (N + 1) (pSk c N i + 1) q
      rw [hp] at e35
      have e35' : q1 117 35 = q 117 35 := e35
      obtain ⟨z1, z2, z3, z4⟩ := qCome_at q1 1 (q 117 44) (q1 117 44) v
      rw [e35'] at z1 z2 z3 z4
      have hP : qP q1 (ju (qCome q1 1 (q 117 44) (q1 117 44) v) 1000 (q 117 35) (q 35 8)) := by
        refine ⟨⟨?_, ?_, ?_, ?_⟩, fun s _ => ?_, fun s _ => ?_, fun s _ => ?_⟩
        all_goals first
          | (rw [zu_a (by omega), qCome_r (by omega) (by omega)]; done)
          | (rw [zu_a (by omega), qCome_r (by omega) (by omega)]; exact Nat.le_refl _)
          | (rw [zu_a (by omega), zu_a (by omega), zu_a (by omega), qCome_r (by omega) (by omega), qCome_r (by omega) (by omega), qCome_r (by omega) (by omega)]; exact ⟨rfl, rfl, rfl⟩)
      unfold bS
      simp (disch := omega) only [zu_a, zu_at]
      rw [z1, z2, z3, z4]
      refine ⟨⟨fun _ => ⟨hv, y2 (Nat.le_refl _), ?_, N + 1, cd_q hP _ _ _ _ y1⟩, fun h => absurd h (by omega), fun h => absurd h (by omega), fun h => absurd h (by omega)⟩, by omega, by omega, ?_⟩
      · rw [qCome_r (by omega) (by omega)]; exact Nat.le_refl _
      · rw [qCome_35, e35']
  · rw [if_neg h61] at h
    by_cases h47 : pCh c N i = 47
    · rw [if_pos h47] at h
      cases h2 : nO 2 (pCh c N (pSk c N i + 1)) with
      | none => rw [h2] at h; cases h
      | some a =>
        rw [h2] at h
        simp only at h
        cases h3 : nO 3 (pCh c N (pSk c N (pSk c N i + 1) + 1)) with
        | none => rw [h3] at h; cases h
        | some b =>
          rw [h3] at h
          simp only at h
          split at h
          · cases h
            obtain ⟨z1, z2, z3, z4⟩ := qCome_at q 2 v a b
            have a3 : a < 3 := by rw [nO_2] at h2; exact (lO3_lt h2).1
            have b4 := (nO_lt h3).1
            unfold bS
            rw [z1, z2, z3, z4, qCome_35]
            exact ⟨⟨fun h => absurd h (by omega), fun _ => ⟨hv, a3, by omega⟩, fun h => absurd h (by omega), fun h => absurd h (by omega)⟩, by omega, by omega, rfl⟩
          · cases h
    · rw [if_neg h47] at h
      cases h
theorem pAl_b (c : Nat → Nat) (N a0 i : Nat) (q : Nat → Nat → Nat) (i' : Nat) (q' : Nat → Nat → Nat) (h : pAl c N a0 i q = (true, i', q')) : bS q' (q 117 35) ∧ 1 ≤ q' 138 (q 117 35) ∧ q' 138 (q 117 35) ≤ 3 ∧ q' 117 35 = q 117 35 + 1 := by
  unfold pAl at h
  cases h1 : nO 0 (pCh c N i) with
  | none => rw [h1] at h; cases h
  | some v =>
    rw [h1] at h
    simp only at h
    cases h2 : nO 1 (pCh c N (pSk c N i + 1)) with
    | none => rw [h2] at h; cases h
    | some w =>
      rw [h2] at h
      simp only at h
      split at h
      · cases h
        have e35 : ju q 143 (q 117 42) a0 117 35 = q 117 35 := zu_a (by omega)
        obtain ⟨z1, z2, z3, z4⟩ := qCome_at (ju q 143 (q 117 42) a0) 3 v w (q 117 42)
        rw [e35] at z1 z2 z3 z4
        unfold bS
        simp (disch := omega) only [zu_a, zu_at, zu_k]
        rw [z1, z2, z3, z4, qCome_35, e35]
        exact ⟨⟨fun h => absurd h (by omega), fun h => absurd h (by omega), fun _ => ⟨(nO_lt h1).1, (nO_lt h2).1, by omega⟩, fun h => absurd h (by omega)⟩, by omega, by omega, rfl⟩
      · cases h
theorem pHd_b (c : Nat → Nat) (N x i : Nat) (q : Nat → Nat → Nat) (i' : Nat) (q' : Nat → Nat → Nat) (hx : x = 63 ∨ x = 35 ∨ x = 43 ∨ x = 42) (h : pHd c N x i q = (true, i', q')) : bS q' (q 117 35) ∧ q' 138 (q 117 35) = sortO x ∧ q' 117 35 = q 117 35 + 1 := by
  have hs : sortO x = 4 ∨ sortO x = 5 ∨ sortO x = 6 ∨ sortO x = 7 := by rcases hx with e | e | e | e <;> rw [e] <;> decide
  unfold pHd at h
  split at h
  · cases h1 : nO 0 (pCh c N i) with
    | none => rw [h1] at h; cases h
    | some v =>
      rw [h1] at h
      simp only at h
      cases h2 : nO 1 (pCh c N (pSk c N i + 1)) with
      | none => rw [h2] at h; cases h
      | some w =>
        rw [h2] at h
        cases h
        obtain ⟨z1, z2, z3, z4⟩ := qCome_at q (sortO x) v w 0
        unfold bS
        rw [z1, z2, z3, z4, qCome_35]
        exact ⟨⟨fun h => absurd h (by omega), fun h => absurd h (by omega), fun h => absurd h (by omega), fun _ => ⟨(nO_lt h1).1, (nO_lt h2).1⟩⟩, rfl, rfl⟩
  · cases h
    obtain ⟨z1, z2, z3, z4⟩ := qCome_at q (sortO x) 0 0 0
    unfold bS
    rw [z1, z2, z3, z4, qCome_35]
    exact ⟨⟨fun h => absurd h (by omega), fun h => absurd h (by omega), fun h => absurd h (by omega), fun _ => ⟨by omega, by omega⟩⟩, rfl, rfl⟩

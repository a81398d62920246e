/-! THE CLASS: a program is read -/
set_option maxRecDepth 100000
/-- the code: it is as it was, or it is smaller than what was read -/
def pJ (i : Nat) (q : Nat → Nat → Nat) (r : Bool × Nat × (Nat → Nat → Nat)) : Prop := r.1 = true → i ≤ r.2.1 ∧ (r.2.2 35 8 = q 35 8 ∨ r.2.2 35 8 + i + 1 ≤ q 35 8 + r.2.1)
theorem pJ_f {i j : Nat} {q q' : Nat → Nat → Nat} : pJ i q (false, j, q') := fun h => Bool.noConfusion h
theorem pLet_j (c : Nat → Nat) (N : Nat) : ∀ f i q, i ≤ N → (pLet c N f i q).1 = true → (pLet c N f i q).2.2 35 8 + i ≤ q 35 8 + (pLet c N f i q).2.1 := by
  intro f
  induction f with
  | zero => intro i q _ h; exact Bool.noConfusion h
  | succ f ih =>
    intro i q hi
    obtain ⟨hs1, hs2⟩ := pSk_le (c := c) hi
    unfold pLet
    by_cases h : pCh c N i = 39
    · rw [if_pos h]
      intro _
      show qCode q 39 35 8 + i ≤ q 35 8 + (pSk c N i + 1)
      unfold qCode; rw [zu_at]; omega
    · rw [if_neg h]
      cases hl : lO3 (pCh c N i) with
      | none => intro h; exact Bool.noConfusion h
      | some l =>
        have hlt := pCh_lt (c := c) (N := N) (i := i) (by have := lO3_lt hl; omega)
        intro hh
        have := ih (pSk c N i + 1) (qCode (qTold q l) (pCh c N i)) (by omega) hh
        have e8 : qCode (qTold q l) (pCh c N i) 35 8 = q 35 8 + 1 := by unfold qCode qTold; rw [zu_at, zu_a (by omega), zu_a (by omega)]
        rw [e8] at this
        show (pLet c N f (pSk c N i + 1) (qCode (qTold q l) (pCh c N i))).2.2 35 8 + i ≤ q 35 8 + (pLet c N f (pSk c N i + 1) (qCode (qTold q l) (pCh c N i))).2.1
        omega
theorem pPts_j (c : Nat → Nat) (N fr : Nat) : ∀ f i q, i ≤ N → (pPts c N fr f i q).1 = true → (pPts c N fr f i q).2.2 35 8 + i ≤ q 35 8 + (pPts c N fr f i q).2.1 := by
  intro f
  induction f with
  | zero => intro i q _ h; exact Bool.noConfusion h
  | succ f ih =>
    intro i q hi
    obtain ⟨hs1, hs2⟩ := pSk_le (c := c) hi
    have ep : ∀ (q : Nat → Nat → Nat) s a b, qPart q s a b 35 8 = q 35 8 := fun q s a b => qPart_r (by omega) (by omega)
    have ec : ∀ (q : Nat → Nat → Nat) x, qCode q x 35 8 = q 35 8 + 1 := fun q x => by unfold qCode; rw [zu_at]
    unfold pPts
    by_cases h : pCh c N i = 39
    · rw [if_pos h]
      have hlt := pCh_lt (c := c) (N := N) (i := i) (by omega)
      have hl := pLet_j c N (N + 1) (pSk c N i + 1) (qCode q 39) (by omega)
      have hli := pLet_i c N (N + 1) (pSk c N i + 1) (qCode q 39) (by omega)
      rcases hp : pLet c N (N + 1) (pSk c N i + 1) (qCode q 39) with ⟨b, i', q'⟩
      rw [hp] at hl hli
      cases b
      · intro h; exact Bool.noConfusion h
      · have hl' : q' 35 8 + (pSk c N i + 1) ≤ qCode q 39 35 8 + i' := hl rfl
        rw [ec] at hl'
        have y2' : i' ≤ N := (hli rfl).2
        intro hh
        have := ih i' (qPart q' 1 (q 117 48) (q' 117 48 - q 117 48)) y2' hh
        rw [ep] at this
        show (pPts c N fr f i' (qPart q' 1 (q 117 48) (q' 117 48 - q 117 48))).2.2 35 8 + i ≤ q 35 8 + (pPts c N fr f i' (qPart q' 1 (q 117 48) (q' 117 48 - q 117 48))).2.1
        omega
    · rw [if_neg h]
      have go : ∀ q2 : Nat → Nat → Nat, pSk c N i < N → q2 35 8 = q 35 8 + 1 → (pPts c N fr f (pSk c N i + 1) q2).1 = true → (pPts c N fr f (pSk c N i + 1) q2).2.2 35 8 + i ≤ q 35 8 + (pPts c N fr f (pSk c N i + 1) q2).2.1 := by
        intro q2 hlt e2 hh
        have := ih (pSk c N i + 1) q2 (by omega) hh
        omega
      by_cases h2 : 48 ≤ pCh c N i ∧ pCh c N i ≤ 51
      · rw [if_pos h2]
        exact go _ (pCh_lt (by omega)) (by rw [ec, ep])
      · rw [if_neg h2]
        by_cases h3 : pCh c N i = 59 ∧ fr < q 117 44
        · rw [if_pos h3]
          intro _
          show qCode q 59 35 8 + i ≤ q 35 8 + (pSk c N i + 1)
          rw [ec]; omega
        · rw [if_neg h3]
          cases hv : vO (pCh c N i) with
          | none => intro h; exact Bool.noConfusion h
          | some v => exact go _ (pCh_lt (by have := vO_lt hv; omega)) (by rw [ec, ep])
theorem pVar_j (c : Nat → Nat) (N v i : Nat) (q : Nat → Nat → Nat) (hi : i ≤ N) : pJ i q (pVar c N v i q) := by
  have hI := pVar_i c N v i q hi
  obtain ⟨hs1, hs2⟩ := pSk_le (c := c) hi
  intro ht
  refine ⟨by have := (hI ht).1; omega, ?_⟩
  revert ht
  unfold pVar
  by_cases h : pCh c N i = 61
  · rw [if_pos h]
    have hlt := pCh_lt (c := c) (N := N) (i := i) (by omega)
    have z1 := pPts_j c N (q 117 44) (N + 1) (pSk c N i + 1) q (by omega)
    rcases hp : pPts c N (q 117 44) (N + 1) (pSk c N i + 1) q with ⟨b, i', q'⟩
    rw [hp] at z1
    cases b
    · intro h; exact Bool.noConfusion h
    · have z1' : q' 35 8 + (pSk c N i + 1) ≤ q 35 8 + i' := z1 rfl
      intro _
      refine Or.inr ?_
      show ju (qCome q' 1 (q 117 44) (q' 117 44) v) 1000 (q 117 35) (q 35 8) 35 8 + i + 1 ≤ q 35 8 + i'
      rw [zu_a (by omega), qCome_r (by omega) (by omega)]
      omega
  · rw [if_neg h]
    by_cases h2 : pCh c N i = 47
    · rw [if_pos h2]
      cases nO 2 (pCh c N (pSk c N i + 1)) with
      | none => intro h; exact Bool.noConfusion h
      | some a =>
        simp only
        cases nO 3 (pCh c N (pSk c N (pSk c N i + 1) + 1)) with
        | none => intro h; exact Bool.noConfusion h
        | some b =>
          simp only
          split
          · intro _; exact Or.inl (show qCome q 2 v a b 35 8 = q 35 8 from qCome_r (by omega) (by omega))
          · intro h; exact Bool.noConfusion h
    · rw [if_neg h2]; intro h; exact Bool.noConfusion h
theorem pAl_j (c : Nat → Nat) (N a0 i : Nat) (q : Nat → Nat → Nat) (hi : i ≤ N) : pJ i q (pAl c N a0 i q) := by
  have hI := pAl_i c N a0 i q hi
  intro ht
  refine ⟨by have := (hI ht).1; omega, ?_⟩
  revert ht
  unfold pAl
  cases nO 0 (pCh c N i) with
  | none => intro h; exact Bool.noConfusion h
  | some v =>
    simp only
    cases nO 1 (pCh c N (pSk c N i + 1)) with
    | none => intro h; exact Bool.noConfusion h
    | some w =>
      simp only
      split
      · intro _
        refine Or.inl ?_
        show ju (qCome (ju q 143 (q 117 42) a0) 3 v w (q 117 42)) 117 42 (q 117 42 + 1) 35 8 = q 35 8
        rw [zu_a (by omega), qCome_r (by omega) (by omega), zu_a (by omega)]
      · intro h; exact Bool.noConfusion h
theorem pHd_j (c : Nat → Nat) (N x i : Nat) (q : Nat → Nat → Nat) (hi : i ≤ N) : pJ i q (pHd c N x i q) := by
  have hI := pHd_i c N x i q hi
  intro ht
  refine ⟨by have := (hI ht).1; omega, ?_⟩
  revert ht
  unfold pHd
  split
  · cases nO 0 (pCh c N i) with
    | none => intro h; exact Bool.noConfusion h
    | some v =>
      simp only
      cases nO 1 (pCh c N (pSk c N i + 1)) with
      | none => intro h; exact Bool.noConfusion h
      | some w => intro _; exact Or.inl (show qCome q (sortO x) v w 0 35 8 = q 35 8 from qCome_r (by omega) (by omega))
  · intro _; exact Or.inl (show qCome q (sortO x) 0 0 0 35 8 = q 35 8 from qCome_r (by omega) (by omega))
theorem pTk_j (c : Nat → Nat) (N x i : Nat) (q : Nat → Nat → Nat) (hi : i ≤ N) (hx : x < 128) : pJ i q (pTk c N x i q) := fun ht => ⟨by have := (pTk_i c N x i q hi hx ht).1; omega, Or.inl (by rw [pTk_q])⟩
theorem pGo_j {N e0 i i0 : Nat} {q q0 : Nat → Nat → Nat} {r : Bool × Nat × (Nat → Nat → Nat)} {k : Nat → (Nat → Nat → Nat) → Bool × Nat × (Nat → Nat → Nat)} (h : pJ i0 q0 r) (hI : pI N e0 i0 q0 r) (hk : ∀ i' q', i0 ≤ i' → i' ≤ N → (q' 35 8 = q0 35 8 ∨ q' 35 8 + i0 + 1 ≤ q0 35 8 + i') → pJ i q (k i' q')) : pJ i q (pGo r k) := by
  unfold pGo
  by_cases hr : r.1 = true
  · rw [if_pos hr]
    exact hk _ _ (h hr).1 (hI hr).2.1 (h hr).2
  · rw [if_neg hr]
    exact fun h => absurd h hr
theorem pJ_w {i i' : Nat} {q q' : Nat → Nat → Nat} {r : Bool × Nat × (Nat → Nat → Nat)} (h : pJ i' q' r) (h1 : i ≤ i') (h2 : q' 35 8 = q 35 8 ∨ q' 35 8 + i + 1 ≤ q 35 8 + i') : pJ i q r := fun hr => by
  obtain ⟨y1, y2⟩ := h hr
  exact ⟨by omega, by omega⟩
theorem pBlk_j (c : Nat → Nat) (N : Nat) : ∀ f k i q, i ≤ N → pJ i q (pBlk c N f k i q) := by
  intro f
  induction f with
  | zero => intro k i q _; exact pJ_f
  | succ f ih =>
    intro k i q hi
    obtain ⟨hs1, hs2⟩ := pSk_le (c := c) hi
    have eS : qSt q 35 8 = q 35 8 := qSt_r (by omega)
    have brc : ∀ i q, i ≤ N → pJ i q (pBrc c N f k i q) := by
      intro i q hi
      obtain ⟨hs1, hs2⟩ := pSk_le (c := c) hi
      unfold pBrc
      by_cases h : k < 5 ∧ pCh c N i = 123
      · rw [if_pos h]
        have hlt := pCh_lt (c := c) (N := N) (i := i) (by omega)
        exact pGo_j (ih (k + 1) (pSk c N i + 1) q (by omega)) (pBlk_i c N f (k + 1) (pSk c N i + 1) q (by omega)) (fun i2 q2 z1 z2 z3 => pJ_w (pTk_j c N 125 i2 q2 z2 (by omega)) (by omega) (by omega))
      · rw [if_neg h]; exact pJ_f
    rw [pBlk_stm]
    by_cases hb : isB (pCh c N i) = false
    · rw [if_pos hb]
      exact fun _ => ⟨hs1, Or.inl rfl⟩
    · rw [if_neg hb]
      have hst : pJ i q (pStm c N f k i q) := by
        cases hv : vO (pCh c N i) with
        | some v =>
          have hlt := pCh_lt (c := c) (N := N) (i := i) (by have := vO_lt hv; omega)
          unfold pStm
          rw [hv]
          exact pJ_w (pVar_j c N v (pSk c N i + 1) (qSt q) (by omega)) (by omega) (by omega)
        | none =>
          by_cases h33 : pCh c N i = 33
          · have hlt := pCh_lt (c := c) (N := N) (i := i) (by omega)
            unfold pStm
            rw [hv]
            simp only [if_pos h33]
            exact pJ_w (pAl_j c N (pSk c N i) (pSk c N i + 1) (qSt q) (by omega)) (by omega) (by omega)
          · have hx := isB_t hb hv h33
            have hlt := pCh_lt (c := c) (N := N) (i := i) (by omega)
            rw [pStm_brc c N f k i q hv h33]
            refine pGo_j (pHd_j c N (pCh c N i) (pSk c N i + 1) (qSt q) (by omega)) (pHd_i c N (pCh c N i) (pSk c N i + 1) (qSt q) (by omega)) (fun i1 q1 y1 y2 y3 => ?_)
            refine pGo_j (brc i1 q1 y2) (pBrc_i c N f k i1 q1 y2) (fun i3 q3 w1 w2 w3 => ?_)
            split
            · have eC : qSec q3 (q 117 35) (sortO (pCh c N i)) 35 8 = q3 35 8 := qSec_r (by omega)
              refine pGo_j (brc i3 _ w2) (pBrc_i c N f k i3 _ w2) (fun i6 q6 s1 s2 s3 => ?_)
              have eE : qEnd q6 (q3 117 35) (sortO (pCh c N i)) 35 8 = q6 35 8 := qEnd_r (by omega)
              exact fun _ => ⟨show i ≤ i6 by omega, show qEnd q6 (q3 117 35) (sortO (pCh c N i)) 35 8 = q 35 8 ∨ qEnd q6 (q3 117 35) (sortO (pCh c N i)) 35 8 + i + 1 ≤ q 35 8 + i6 by omega⟩
            · have eE : qEnd q3 (q 117 35) (sortO (pCh c N i)) 35 8 = q3 35 8 := qEnd_r (by omega)
              exact fun _ => ⟨show i ≤ i3 by omega, show qEnd q3 (q 117 35) (sortO (pCh c N i)) 35 8 = q 35 8 ∨ qEnd q3 (q 117 35) (sortO (pCh c N i)) 35 8 + i + 1 ≤ q 35 8 + i3 by omega⟩
      exact pGo_j hst (pStm_i c N f k i q hi hb) (fun i' q' y1 y2 y3 => pJ_w (ih k i' q' y2) (by omega) (by omega))
section MM
variable (d L : Nat)
theorem c_copyOf (g : jG) {r m n : Nat} {I : Nat → Nat → Int32} {J : Nat → Nat → Int64} (h168 : 170 ≤ g.2.2.2.1) (hr : r ≤ g.2.2.2.1) (hk : gK L g r = 14) (hm : gN L g r = m) (hn : n < m) (hm2 : m < 1000000) (hC : g.2.2.2.1 + 1 ≤ 600000) (hQ : g.2.2.2.2 + n ≤ 7302250) : ∃ g1 I1, (∀ a, a ≠ g.2.2.2.1 + 1 → I1 a = I a) ∧ (∀ j, j < n → I1 (g.2.2.2.1 + 1) j = I r j) ∧ g1.2.2.2.1 = g.2.2.2.1 + 1 ∧ g1.2.2.2.2 = g.2.2.2.2 + n ∧ gK L g1 (g.2.2.2.1 + 1) = 14 ∧ gN L g1 (g.2.2.2.1 + 1) = n ∧ (∀ a, a ≠ g.2.2.2.1 + 1 → gK L g1 a = gK L g a ∧ gN L g1 a = gN L g a) ∧ (∀ a k, a ≠ g.2.2.2.1 + 1 → g1.2.2.1 a k = g.2.2.1 a k) ∧ jcall (d + 1) 280 [.ref r, .int (nI n)] (jGs L g, I, J) = some (some (.ref (g.2.2.2.1 + 1)), (jGs L g1, I1, jup J (g.2.2.2.1 + 1) (fun _ => 0))) := by
  obtain ⟨g1, x1, c1, q1, kn1, ln1, o1, r1, z1⟩ := jga_all L g 14 n n h168
  have k1 : gK L g1 r = 14 := (o1 r (by omega)).1.trans hk
  have m1 : gN L g1 r = m := (o1 r (by omega)).2.trans hm
  refine ⟨g1, jup (jup I (g.2.2.2.1 + 1) (fun _ => nI 0)) (g.2.2.2.1 + 1) (va_cpy (jup I (g.2.2.2.1 + 1) (fun _ => nI 0) r) (jup I (g.2.2.2.1 + 1) (fun _ => nI 0) (g.2.2.2.1 + 1)) 0 0 n), fun a ha => ?_, fun j hj => ?_, c1, q1, kn1, ln1, o1, r1, ?_⟩
  · rw [jup_n ha, jup_n ha]
  · rw [jup_s]
    unfold va_cpy
    rw [if_pos (by omega), jup_n (by omega), show 0 + (j - 0) = j by omega]
  · rw [c_Arrays_copyOf, e_Arrays_copyOf_0, if_pos (show 14 ≤ (jGs L g).1 r from Nat.le_of_eq hk.symm), show (jGs L g).2.1 r = m from hm, show Int32.ofNat m = nI m from rfl, jif_f (fun e => by have := (nI_eq (by omega) (by omega)).mp e; omega), nI_c (by omega), jrm_t hC hQ, jb_nI (by omega)]
    show (cond (true && true) _ _ : jO) = _
    rw [Bool.and_true, cond_true, x1, e_Arrays_copyOf_17, if_pos (show 14 ≤ (jGs L g1).1 r from Nat.le_of_eq k1.symm), if_pos ⟨Or.inl ⟨k1, kn1⟩, by omega⟩, show (jGs L g1).2.1 r = m from m1, show (jGs L g1).2.1 (g.2.2.2.1 + 1) = n from ln1, show Int32.ofNat m = nI m from rfl, jmm_ge (by omega) (by omega), nI_c (by omega), show (0 : Int32).toNatClampNeg = 0 from rfl, jb_t.mpr ⟨nI_pos' (by omega), by decide, by decide, by omega, by omega⟩, Bool.and_true, cond_true, e_Arrays_copyOf_31]
theorem c_copyOf2 (g : jG) {r m n : Nat} {I : Nat → Nat → Int32} {J : Nat → Nat → Int64} (h168 : 170 ≤ g.2.2.2.1) (hr : r ≤ g.2.2.2.1) (hk : gK L g r = 15) (hm : gN L g r = m) (hn : n < m) (hm2 : m < 1000000) (hC : g.2.2.2.1 + 1 ≤ 600000) (hQ : g.2.2.2.2 + n ≤ 7302250) : ∃ g1 I1, (∀ a, a ≠ g.2.2.2.1 + 1 → I1 a = I a) ∧ (∀ j, j < n → I1 (g.2.2.2.1 + 1) j = I r j) ∧ g1.2.2.2.1 = g.2.2.2.1 + 1 ∧ g1.2.2.2.2 = g.2.2.2.2 + n ∧ gK L g1 (g.2.2.2.1 + 1) = 15 ∧ gN L g1 (g.2.2.2.1 + 1) = n ∧ (∀ a, a ≠ g.2.2.2.1 + 1 → gK L g1 a = gK L g a ∧ gN L g1 a = gN L g a) ∧ (∀ a k, a ≠ g.2.2.2.1 + 1 → g1.2.2.1 a k = g.2.2.1 a k) ∧ jcall (d + 1) 281 [.ref r, .int (nI n)] (jGs L g, I, J) = some (some (.ref (g.2.2.2.1 + 1)), (jGs L g1, I1, jup J (g.2.2.2.1 + 1) (fun _ => 0))) := by
  obtain ⟨g1, x1, c1, q1, kn1, ln1, o1, r1, z1⟩ := jga_all L g 15 n n h168
  have k1 : gK L g1 r = 15 := (o1 r (by omega)).1.trans hk
  have m1 : gN L g1 r = m := (o1 r (by omega)).2.trans hm
  refine ⟨g1, jup (jup I (g.2.2.2.1 + 1) (fun _ => nI 0)) (g.2.2.2.1 + 1) (va_cpy (jup I (g.2.2.2.1 + 1) (fun _ => nI 0) r) (jup I (g.2.2.2.1 + 1) (fun _ => nI 0) (g.2.2.2.1 + 1)) 0 0 n), fun a ha => ?_, fun j hj => ?_, c1, q1, kn1, ln1, o1, r1, ?_⟩
  · rw [jup_n ha, jup_n ha]
  · rw [jup_s]
    unfold va_cpy
    rw [if_pos (by omega), jup_n (by omega), show 0 + (j - 0) = j by omega]
  · rw [c_Arrays_copyOf2, e_Arrays_copyOf2_0, if_pos (show 14 ≤ (jGs L g).1 r by rw [show (jGs L g).1 r = 15 from hk]; omega), show (jGs L g).2.1 r = m from hm, show Int32.ofNat m = nI m from rfl, jif_f (fun e => by have := (nI_eq (by omega) (by omega)).mp e; omega), nI_c (by omega), jrm_t hC hQ, jb_nI (by omega)]
    show (cond (true && true) _ _ : jO) = _
    rw [Bool.and_true, cond_true, x1, e_Arrays_copyOf2_17, if_pos (show 14 ≤ (jGs L g1).1 r by rw [show (jGs L g1).1 r = 15 from k1]; omega), if_pos ⟨Or.inr ⟨k1, kn1⟩, by omega⟩, show (jGs L g1).2.1 r = m from m1, show (jGs L g1).2.1 (g.2.2.2.1 + 1) = n from ln1, show Int32.ofNat m = nI m from rfl, jmm_ge (by omega) (by omega), nI_c (by omega), show (0 : Int32).toNatClampNeg = 0 from rfl, jb_t.mpr ⟨nI_pos' (by omega), by decide, by decide, by omega, by omega⟩, Bool.and_true, cond_true, e_Arrays_copyOf2_31]
end MM

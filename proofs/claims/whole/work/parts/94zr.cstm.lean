/-! THE CLASS: a statement -/
set_option maxRecDepth 100000
theorem nS_I {q : Nat → Nat → Nat} {I I' : Nat → Nat → Int32} {n a : Nat} (hI : ∀ k, I' n k = I n k) (h : nS q I n a) : nS q I' n a := by
  unfold nS
  rw [hI, hI, hI, hI]
  exact h
theorem pTk_t {c : Nat → Nat} {N x i i' : Nat} {q q' : Nat → Nat → Nat} (h : pTk c N x i q = (true, i', q')) : q' = q := by
  have := pTk_q c N x i q
  rw [h] at this
  exact this
theorem pBrc_K (c : Nat → Nat) (N f k i : Nat) (q : Nat → Nat → Nat) : qK q (pBrc c N f k i q).2.2 := by
  unfold pBrc
  split
  · have h1 := pBlk_K c N f (k + 1) (pSk c N i + 1) q
    refine pGo_K h1 (fun i' _ => ?_)
    rw [pTk_q]; exact h1
  · exact qK_r q
theorem qSec_at {q : Nat → Nat → Nat} {s so : Nat} (hs : s < q 117 35) : qSec q s so 117 35 = q 117 35 + 1 ∧ qSec q s so 138 (q 117 35) = 8 ∧ qSec q s so 139 (q 117 35) = q 139 s ∧ qSec q s so 140 (q 117 35) = q 140 s ∧ qSec q s so 141 (q 117 35) = so ∧ qSec q s so 142 s = q 117 35 + 1 := by
  unfold qSec qMate qCome
  refine ⟨?_, ?_, ?_, ?_, ?_, ?_⟩ <;> simp (disch := omega) only [zu_a, zu_k, zu_at]
theorem qSec_r {q : Nat → Nat → Nat} {s so a k : Nat} (h : a = 117 ∧ k ≠ 35 ∨ a < 117 ∨ 142 < a ∨ (117 < a ∧ a < 138) ∨ (138 ≤ a ∧ a ≤ 142 ∧ k < q 117 35 ∧ ¬ (a = 142 ∧ k = s))) : qSec q s so a k = q a k := by
  unfold qSec qMate qCome
  rw [ju_ne (by omega), ju_ne (by omega), ju_ne (by omega), ju_ne (by omega), ju_ne (by omega), ju_ne (by omega), ju_ne (by omega)]
theorem qEnd_at {q : Nat → Nat → Nat} {s so : Nat} (hs : s < q 117 35) : qEnd q s so 117 35 = q 117 35 + 1 ∧ qEnd q s so 138 (q 117 35) = 9 ∧ qEnd q s so 139 (q 117 35) = q 139 s ∧ qEnd q s so 140 (q 117 35) = q 140 s ∧ qEnd q s so 141 (q 117 35) = so ∧ qEnd q s so 142 s = q 117 35 + 1 ∧ qEnd q s so 142 (q 117 35) = s + 1 := by
  unfold qEnd qMate qCome
  refine ⟨?_, ?_, ?_, ?_, ?_, ?_, ?_⟩ <;> simp (disch := omega) only [zu_a, zu_k, zu_at]
theorem qEnd_r {q : Nat → Nat → Nat} {s so a k : Nat} (h : a = 117 ∧ k ≠ 35 ∨ a < 117 ∨ 142 < a ∨ (117 < a ∧ a < 138) ∨ (138 ≤ a ∧ a ≤ 142 ∧ k < q 117 35 ∧ ¬ (a = 142 ∧ k = s))) : qEnd q s so a k = q a k := by
  unfold qEnd qMate qCome
  rw [ju_ne (by omega), ju_ne (by omega), ju_ne (by omega), ju_ne (by omega), ju_ne (by omega), ju_ne (by omega), ju_ne (by omega), ju_ne (by omega)]
theorem cQ_Sec {q : Nat → Nat → Nat} {s so : Nat} {I : Nat → Nat → Int32} (h : cQ q I) : cQ (qSec q s so) I := cQ_q h (qSec_r (by omega)) (qSec_r (by omega)) (qSec_r (by omega)) (fun k _ => qSec_r (by omega)) (fun k _ => qSec_r (by omega))
theorem cQ_End {q : Nat → Nat → Nat} {s so : Nat} {I : Nat → Nat → Int32} (h : cQ q I) : cQ (qEnd q s so) I := cQ_q h (qEnd_r (by omega)) (qEnd_r (by omega)) (qEnd_r (by omega)) (fun k _ => qEnd_r (by omega)) (fun k _ => qEnd_r (by omega))
theorem qP_Sec {q : Nat → Nat → Nat} {s so : Nat} : qP q (qSec q s so) := ⟨⟨by rw [qSec_r (by omega)]; exact Nat.le_refl _, by rw [qSec_r (by omega)]; exact Nat.le_refl _, by rw [qSec_r (by omega)]; exact Nat.le_refl _, by rw [qSec_r (by omega)]; exact Nat.le_refl _⟩, fun k _ => ⟨qSec_r (by omega), qSec_r (by omega), qSec_r (by omega)⟩, fun k _ => qSec_r (by omega), fun k _ => qSec_r (by omega)⟩
theorem qP_End {q : Nat → Nat → Nat} {s so : Nat} : qP q (qEnd q s so) := ⟨⟨by rw [qEnd_r (by omega)]; exact Nat.le_refl _, by rw [qEnd_r (by omega)]; exact Nat.le_refl _, by rw [qEnd_r (by omega)]; exact Nat.le_refl _, by rw [qEnd_r (by omega)]; exact Nat.le_refl _⟩, fun k _ => ⟨qEnd_r (by omega), qEnd_r (by omega), qEnd_r (by omega)⟩, fun k _ => qEnd_r (by omega), fun k _ => qEnd_r (by omega)⟩
section MM
variable (d L : Nat)
theorem c_st_130 {n : Nat} {x1 x2 : Int32} {x : Option Nat} (g : jG) {I : Nat → Nat → Int32} {J : Nat → Nat → Int64} (hn : 171 ≤ n) (kn : (jGs L g).1 n = 4) : jo x (jval d 69 130 [.ref 35, .int x1, .int x2, jjunk, .ref n] [.null, .ref n] (jGs L g, I, J)) (fun b => jval d 69 130 [.ref 35, .int x1, .int x2, jjunk, .ref n] [.ref b, .ref n] (jGs L g, I, J)) = jval d 69 133 [.ref 35, .int x1, .int x2, jjunk, .ref n] [] (jGs L (jgsR g n 4 x), I, J) := by
  rw [← jGs_R (jr0_dyn (by omega) 4)]
  cases x with
  | none => show jval d 69 130 [.ref 35, .int x1, .int x2, jjunk, .ref n] [.null, .ref n] (jGs L g, I, J) = _; rw [e_ProgramReader_statement_130, if_pos kn]
  | some b => show jval d 69 130 [.ref 35, .int x1, .int x2, jjunk, .ref n] [.ref b, .ref n] (jGs L g, I, J) = _; rw [e_ProgramReader_statement_130a, if_pos kn]
theorem c_st_152 {n : Nat} {x : Option Nat} (g : jG) {I : Nat → Nat → Int32} {J : Nat → Nat → Int64} (hn : 171 ≤ n) (kn : (jGs L g).1 n = 4) : jo x (jval d 69 152 [jjunk, jjunk, jjunk, jjunk, .ref n] [.null, .ref n] (jGs L g, I, J)) (fun b => jval d 69 152 [jjunk, jjunk, jjunk, jjunk, .ref n] [.ref b, .ref n] (jGs L g, I, J)) = some (some (.ref n), (jGs L (jgsR g n 5 x), I, J)) := by
  rw [← e_ProgramReader_statement_155 d L (jgsR g n 5 x) I J n, ← jGs_R (jr0_dyn (by omega) 5)]
  cases x with
  | none => show jval d 69 152 [jjunk, jjunk, jjunk, jjunk, .ref n] [.null, .ref n] (jGs L g, I, J) = _; rw [e_ProgramReader_statement_152, if_pos kn]
  | some b => show jval d 69 152 [jjunk, jjunk, jjunk, jjunk, .ref n] [.ref b, .ref n] (jGs L g, I, J) = _; rw [e_ProgramReader_statement_152a, if_pos kn]
theorem c_st_133b {x : Nat} {x1 : Int32} {n : Nat} (g : jG) {I : Nat → Nat → Int32} {J : Nat → Nat → Int64} (hx : x < 128) : jval d 69 133 [.ref 35, .int x1, .int (nI x), jjunk, .ref n] [] (jGs L g, I, J) = if x = 63 ∨ x = 43 then jval d 69 145 [.ref 35, .int x1, jjunk, jjunk, .ref n] [] (jGs L g, I, J) else some (some (.ref n), (jGs L g, I, J)) := by
  have ne : ∀ b, b < 128 → x ≠ b → ¬ nI x = nI b := fun b hb hne e => hne ((nI_eq (by omega) (by omega)).mp e)
  rw [e_ProgramReader_statement_133]
  by_cases h63 : x = 63
  · rw [jif_t (show nI x = (63 : Int32) by rw [h63]; rfl), if_pos (Or.inl h63)]
  · rw [jif_f (show ¬ nI x = (63 : Int32) from ne 63 (by omega) h63)]
    by_cases h43 : x = 43
    · rw [jif_t (show nI x = (43 : Int32) by rw [h43]; rfl), if_pos (Or.inr h43)]
    · rw [jif_f (show ¬ nI x = (43 : Int32) from ne 43 (by omega) h43), if_neg (by omega), e_ProgramReader_statement_155]
/-- behind a fault, from the first braces' place on -/
theorem c_st_133f {c : Nat → Nat} {N p k n x : Nat} (g : jG) {I : Nat → Nat → Int32} {J : Nat → Nat → Int64} (hN : N ≤ 120) (hc : ∀ i, i < N → c i < 128) (hg : g.2.2.1 35 0 = some 2) (hk : k < 100) (hx : x < 128) (hn : 171 ≤ n) (kn : (jGs L g).1 n = 4) (h : fF c N p I) : ∃ g' I', hG L n g g' ∧ eCc I I' ∧ fF c N p I' ∧ jval (d + 3) 69 133 [.ref 35, .int (nI k), .int (nI x), jjunk, .ref n] [] (jGs L g, I, J) = some (some (.ref n), (jGs L g', I', J)) := by
  rw [c_st_133b (d + 3) L g hx]
  by_cases h2 : x = 63 ∨ x = 43
  · rw [if_pos h2]
    obtain ⟨I2, b1, b2, b3⟩ := c_br_f d L g (J := J) hN hc hg hk h
    refine ⟨jgsR g n 5 none, I2, hG_s (by omega), b1, b2, ?_⟩
    rw [e_ProgramReader_statement_145, b3, jcR_null]
    exact c_st_152 (d + 3) L (x := none) g hn kn
  · rw [if_neg h2]
    exact ⟨g, I, hG_r, eCc_r I, h, rfl⟩
theorem c_st_108f {c : Nat → Nat} {N p k n x : Nat} (g : jG) {I : Nat → Nat → Int32} {J : Nat → Nat → Int64} (hN : N ≤ 120) (hc : ∀ i, i < N → c i < 128) (hg : g.2.2.1 35 0 = some 2) (hk : k < 100) (hx : x < 128) (hx3 : x ≠ 33) (hn : 171 ≤ n) (kn : (jGs L g).1 n = 4) (h : fF c N p I) : ∃ g' I', hG L n g g' ∧ eCc I I' ∧ fF c N p I' ∧ jval (d + 3) 69 108 [.ref 35, .int (nI k), .int (nI x), jjunk, .ref n] [] (jGs L g, I, J) = some (some (.ref n), (jGs L g', I', J)) := by
  obtain ⟨I2, b1, b2, b3⟩ := c_br_f d L g (J := J) hN hc hg hk h
  have hg1 : hG L n g (jgsR g n 4 none) := hG_s (by omega)
  obtain ⟨g3, I3, e1, e2, e3, e4⟩ := c_st_133f d L (jgsR g n 4 none) (J := J) hN hc ((hg1.1 35 0 (by omega)).trans hg) hk hx hn ((hg1.2.2.1 n).1.trans kn) b2
  refine ⟨g3, I3, hG_t hg1 e1, eCc_t b1 e2, e3, ?_⟩
  rw [e_ProgramReader_statement_108, jif_f (show ¬ nI x = (33 : Int32) from fun e => hx3 ((nI_eq (b := 33) (by omega) (by omega)).mp e)), b3, jcR_null]
  exact (c_st_130 (d + 3) L (x := none) g hn kn).trans e4
theorem c_stm {c : Nat → Nat} {N f k i : Nat} (g : jG) {q : Nat → Nat → Nat} {I : Nat → Nat → Int32} {J : Nat → Nat → Int64} (hN : N ≤ 120) (hc : ∀ i, i < N → c i < 128) (hk : k ≤ 5) (hB : k < 5 → BlkS (d + 4) L c N f (k + 1)) (hf : N ≤ f + i) (h : lG c N i I) (hq : cQ q I) (h8 : q 35 8 ≤ i) (h42 : q 117 42 ≤ i) (hg : g.2.2.1 35 0 = some 2) (h168 : 170 ≤ g.2.2.2.1) (hC : g.2.2.2.1 + N ≤ 600000 + i) (hQ : g.2.2.2.2 + 7 * N ≤ 7302250 + 7 * i) (hb : ¬ isB (pCh c N i) = false) : ∃ g' I' J', fN L g.2.2.2.1 0 g g' I I' J J' ∧ g'.2.2.1 0 6 = g.2.2.1 0 6 ∧ g.2.2.2.1 + 1 ≤ g'.2.2.2.1 ∧ ((pStm c N f k i q).1 = true → g'.2.2.2.1 + i ≤ g.2.2.2.1 + (pStm c N f k i q).2.1) ∧ g'.2.2.2.1 + i ≤ g.2.2.2.1 + N ∧ cSt c N (pStm c N f k i q) I' ∧ gK L g' (g.2.2.2.1 + 1) = 4 ∧ g'.2.2.1 (g.2.2.2.1 + 1) 6 = none ∧ ((pStm c N f k i q).1 = true → nS (pStm c N f k i q).2.2 I' (g.2.2.2.1 + 1) (q 117 35) ∧ bS (pStm c N f k i q).2.2 (q 117 35) ∧ q 117 35 < (pStm c N f k i q).2.2 117 35 ∧ nB (pStm c N f k i q).2.2 g' (nd L (pStm c N f k i q).2.2 g' I' g'.2.2.2.1 f) k (g.2.2.2.1 + 1) (q 117 35) ((pStm c N f k i q).2.2 117 35)) ∧ jcall (d + 6) 69 [.ref 35, .int (nI k)] (jGs L g, I, J) = some (some (.ref (g.2.2.2.1 + 1)), (jGs L g', I', J')) := by
  obtain ⟨hs1, hs2⟩ := pSk_le (c := c) h.1
  have e35 : qSt q 117 35 = q 117 35 := qSt_r (by omega)
  have eS42 : qSt q 117 42 = q 117 42 := qSt_r (by omega)
  have hpi := pStm_i c N f k i q h.1 hb
  cases hv : vO (pCh c N i) with
  | some v =>
    have hlt := pCh_lt (c := c) (N := N) (i := i) (by have := vO_lt hv; omega)
    obtain ⟨g', I', J', b1, b2, b3, b4, b5, b6, b7, b8⟩ := c_st_var d L g (x1 := nI k) (J := J) hN hc hg h168 (by omega) (by omega) h hq h8 hv
    have eP : pStm c N f k i q = pVar c N v (pSk c N i + 1) (qSt q) := by unfold pStm; rw [hv]
    rw [eP] at hpi ⊢
    refine ⟨g', I', J', b1, b6, by omega, fun ht => ?_, by omega, b3, b4, b5 6, fun ht => ?_, b8⟩
    · have := (hpi ht).1; omega
    · have b7' := b7 ht
      rcases hp : pVar c N v (pSk c N i + 1) (qSt q) with ⟨b, i', q'⟩
      rw [hp] at b7' ht
      cases b
      · exact Bool.noConfusion ht
      · obtain ⟨z1, z2, z3, z4⟩ := pVar_b c N v _ _ _ _ (vO_lt hv).1 hp
        rw [e35] at z1 z2 z3 z4
        have z4' : q' 117 35 = q 117 35 + 1 := z4
        exact ⟨b7', z1, show q 117 35 < q' 117 35 by omega, Or.inl ⟨z2, z3, z4'⟩⟩
  | none =>
    by_cases h33 : pCh c N i = 33
    · have hlt := pCh_lt (c := c) (N := N) (i := i) (by omega)
      obtain ⟨g', I', J', b1, b2, b3, b4, b5, b6, b7, b8⟩ := c_st_al d L g (x1 := nI k) (J := J) hN hc hg h168 (by omega) (by omega) h hq h8 h42 h33
      have eP : pStm c N f k i q = pAl c N (pSk c N i) (pSk c N i + 1) (qSt q) := by unfold pStm; rw [hv]; simp only [if_pos h33]
      rw [eP] at hpi ⊢
      refine ⟨g', I', J', b1, b6, by omega, fun ht => ?_, by omega, b3, b4, b5 6, fun ht => ?_, b8⟩
      · have := (hpi ht).1; omega
      · have b7' := b7 ht
        rcases hp : pAl c N (pSk c N i) (pSk c N i + 1) (qSt q) with ⟨b, i', q'⟩
        rw [hp] at b7' ht
        cases b
        · exact Bool.noConfusion ht
        · obtain ⟨z1, z2, z3, z4⟩ := pAl_b c N _ _ _ _ _ hp
          rw [e35] at z1 z2 z3 z4
          have z4' : q' 117 35 = q 117 35 + 1 := z4
          exact ⟨b7', z1, show q 117 35 < q' 117 35 by omega, Or.inl ⟨z2, z3, z4'⟩⟩
    · have hx := isB_t hb hv h33
      have hlt := pCh_lt (c := c) (N := N) (i := i) (by omega)
      rw [pStm_brc c N f k i q hv h33]
      generalize hpc : pCh c N i = x at hx
      obtain ⟨g1, I1, J1, b1, b2, b2', b3, b4, b5, b6, b7, b8⟩ := c_st_hd d L g (x1 := nI k) (J := J) hN hc hg h168 (by omega) (by omega) h hq h8 hpc hx
      have hi1 := pHd_i c N x (pSk c N i + 1) (qSt q) (by omega)
      have hnn : 171 ≤ g.2.2.2.1 + 1 := by omega
      rcases hp : pHd c N x (pSk c N i + 1) (qSt q) with ⟨b, i1, q1⟩
      rw [hp] at b3 b7 hi1
      cases b
      · obtain ⟨g3, I3, e1, e2, e3, e4⟩ := c_st_108f (d + 2) L g1 (J := J1) (k := k) (x := x) hN hc b2' (by omega) (by omega) (by omega) hnn b4 (b3.2 rfl)
        refine ⟨g3, I3, J1, ?_, (e1.1 0 6 (by omega)).trans b6, by rw [e1.2.2.2.1]; omega, fun h => Bool.noConfusion h, by rw [e1.2.2.2.1]; omega, cSt_f e3, (e1.2.2.1 _).1.trans b4, e1.2.1.trans (b5 6), fun h => Bool.noConfusion h, by rw [b8]; exact e4⟩
        exact fN_t (fN_G b1 e1 (by omega)) (fN_e (fun a k _ hx => e2 a k (by omega)))
      · obtain ⟨G1, Q1, q18⟩ := b3.1 rfl
        obtain ⟨z1, z2, z3⟩ := pHd_b c N x _ _ _ _ hx hp
        rw [e35] at z1 z2 z3
        have b7' : nS q1 I1 (g.2.2.2.1 + 1) (q 117 35) := b7 rfl
        obtain ⟨y1, y2, y3⟩ := hi1 rfl
        have y1' : pSk c N i + 1 + 0 ≤ i1 := y1
        have y3' : q1 117 42 + (pSk c N i + 1) ≤ qSt q 117 42 + i1 := y3
        have q18' : q1 35 8 ≤ i1 := q18
        have iN : i1 ≤ N := G1.1
        have Q7 := b1.2.2.2.2.2
        obtain ⟨g2, I2, J2, x2, o1, o2, o3, o4, o5, o6, o7⟩ := c_braces (d + 2) L g1 (J := J1) (f := f) (k := k) (i := i1) (q := q1) hN hc hk hB (by omega) G1 Q1 q18' (by omega) b2' (by omega) (by omega) (by omega)
        have oC := o1.2.2.2.2.1
        -- the first braces' nodes are written into the node
        have hn2 : gK L g2 (g.2.2.2.1 + 1) = 4 := (o1.2.2.1 _ (by omega)).1.trans b4
        have hG2 : hG L (g.2.2.2.1 + 1) g2 (jgsR g2 (g.2.2.2.1 + 1) 4 x2) := hG_s (by omega)
        have hg3 : (jgsR g2 (g.2.2.2.1 + 1) 4 x2).2.2.1 35 0 = some 2 := (hG2.1 35 0 (by omega)).trans ((o1.2.2.2.1 35 0 (by omega) (by omega)).trans b2')
        have s133 : jcall (d + 6) 69 [.ref 35, .int (nI k)] (jGs L g, I, J) = jval (d + 5) 69 133 [.ref 35, .int (nI k), .int (nI x), jjunk, .ref (g.2.2.2.1 + 1)] [] (jGs L (jgsR g2 (g.2.2.2.1 + 1) 4 x2), I2, J2) := by
          rw [b8, e_ProgramReader_statement_108, jif_f (show ¬ nI x = (33 : Int32) from fun e => h33 (hpc.trans ((nI_eq (b := 33) (by omega) (by omega)).mp e))), o7, jcR_o]
          exact c_st_130 (d + 5) L g2 hnn hn2
        have F2 : fN L g.2.2.2.1 0 g g2 I I2 J J2 := fN_t b1 (fN_w o1 (by omega))
        have F3 : fN L g.2.2.2.1 0 g (jgsR g2 (g.2.2.2.1 + 1) 4 x2) I I2 J J2 := fN_G F2 hG2 (by omega)
        have r3n6 : (jgsR g2 (g.2.2.2.1 + 1) 4 x2).2.2.1 (g.2.2.2.1 + 1) 6 = none := hG2.2.1.trans ((o1.2.2.2.1 _ 6 (by omega) (by omega)).trans (b5 6))
        have r306 : (jgsR g2 (g.2.2.2.1 + 1) 4 x2).2.2.1 0 6 = g.2.2.1 0 6 := (hG2.1 0 6 (by omega)).trans (o2.trans b6)
        rw [s133, pGo_t]
        have hbi := pBrc_i c N f k i1 q1 iN
        have hbK := pBrc_K c N f k i1 q1
        rcases hp3 : pBrc c N f k i1 q1 with ⟨b, i3, q3⟩
        rw [hp3] at o3 o5 o6 hbi hbK
        cases b
        · obtain ⟨g4, I4, e1, e2, e3, e4⟩ := c_st_133f (d + 2) L (jgsR g2 (g.2.2.2.1 + 1) 4 x2) (J := J2) (k := k) (x := x) hN hc hg3 (by omega) (by omega) hnn ((hG2.2.2.1 _).1.trans hn2) (o5.2 rfl)
          have eC : g4.2.2.2.1 = g2.2.2.2.1 := e1.2.2.2.1.trans hG2.2.2.2.1
          refine ⟨g4, I4, J2, ?_, (e1.1 0 6 (by omega)).trans r306, by omega, fun h => Bool.noConfusion h, by omega, cSt_f e3, (e1.2.2.1 _).1.trans ((hG2.2.2.1 _).1.trans hn2), e1.2.1.trans r3n6, fun h => Bool.noConfusion h, e4⟩
          exact fN_t (fN_G F3 e1 (by omega)) (fN_e (fun a k _ hx => e2 a k (by omega)))
        · obtain ⟨G3, Q3, q38⟩ := o5.1 rfl
          obtain ⟨k5, n3⟩ := o6 rfl
          have n3' : nd L q3 g2 I2 g2.2.2.2.1 f (k + 1) g1.2.2.2.1 x2 (q1 117 35) (q3 117 35) := n3
          obtain ⟨w1, w2, w3⟩ := hbi rfl
          have w1' : i1 + 2 ≤ i3 := w1
          have w3' : q3 117 42 + i1 ≤ q1 117 42 + i3 := w3
          have q38' : q3 35 8 ≤ i3 := q38
          have o3' : g2.2.2.2.1 + i1 ≤ g1.2.2.2.1 + i3 := o3 rfl
          have hK13 : qK q1 q3 := hbK
          have K35 := hK13.1.1
          obtain ⟨t1, t2, t3, t4, t5, t6⟩ := hK13.2.1 (q 117 35) (by omega)
          have i3N : i3 ≤ N := G3.1
          have b7'' : nS q3 I2 (g.2.2.2.1 + 1) (q 117 35) := nS_I (fun kk => o1.1 _ kk (by omega) (by omega)) (nS_q ⟨t1, t2, t3, t4, t6⟩ b7')
          have z1'' : bS q3 (q 117 35) := bS_q (qK_P hK13) ⟨t1, t2, t3, t4, t6⟩ z1
          have z2'' : q3 138 (q 117 35) = sortO x := t1.trans z2
          rw [c_st_133b (d + 5) L _ (by omega), pGo_t]
          by_cases h2p : x = 63 ∨ x = 43
          · rw [if_pos h2p, if_pos h2p]
            have hso : sortO x = 4 ∨ sortO x = 5 := by rcases h2p with e | e <;> rw [e] <;> decide
            have hlt3 : q 117 35 < q3 117 35 := by omega
            obtain ⟨s1, s2, s3, s4, s5, s6⟩ := qSec_at (so := sortO x) hlt3
            have s8 : qSec q3 (q 117 35) (sortO x) 35 8 = q3 35 8 := qSec_r (by omega)
            have s42 : qSec q3 (q 117 35) (sortO x) 117 42 = q3 117 42 := qSec_r (by omega)
            obtain ⟨g5, I5, J5, x5, u1, u2, u3, u4, u5, u6, u7⟩ := c_braces (d + 2) L (jgsR g2 (g.2.2.2.1 + 1) 4 x2) (J := J2) (f := f) (k := k) (i := i3) (q := qSec q3 (q 117 35) (sortO x)) hN hc hk hB (by omega) G3 (cQ_Sec Q3) (by omega) (by omega) hg3 (by show 170 ≤ g2.2.2.2.1; omega) (by show g2.2.2.2.1 + N ≤ _; omega) (by show g2.2.2.2.2 + 7 * N ≤ _; have := o1.2.2.2.2.2; omega)
            have uC := u1.2.2.2.2.1
            have uC' : g2.2.2.2.1 ≤ g5.2.2.2.1 := uC
            have hn5 : gK L g5 (g.2.2.2.1 + 1) = 4 := (u1.2.2.1 _ (by show _ ≤ g2.2.2.2.1; omega)).1.trans ((hG2.2.2.1 _).1.trans hn2)
            have hG5 : hG L (g.2.2.2.1 + 1) g5 (jgsR g5 (g.2.2.2.1 + 1) 5 x5) := hG_s (by omega)
            have F5 : fN L g.2.2.2.1 0 g (jgsR g5 (g.2.2.2.1 + 1) 5 x5) I I5 J J5 := fN_G (fN_t F3 (fN_w u1 (by show _ ≤ g2.2.2.2.1; omega))) hG5 (by omega)
            have r6 : (jgsR g5 (g.2.2.2.1 + 1) 5 x5).2.2.1 (g.2.2.2.1 + 1) 6 = none := hG5.2.1.trans ((u1.2.2.2.1 _ 6 (by show _ ≤ g2.2.2.2.1; omega) (by omega)).trans r3n6)
            have r4 : (jgsR g5 (g.2.2.2.1 + 1) 5 x5).2.2.1 (g.2.2.2.1 + 1) 4 = x2 := by
              show ju g5.2.2.1 (g.2.2.2.1 + 1) 5 x5 (g.2.2.2.1 + 1) 4 = x2
              rw [zu_k (by omega), u1.2.2.2.1 _ 4 (by show _ ≤ g2.2.2.2.1; omega) (by omega)]
              exact zu_at _ _ _ _
            have r5 : (jgsR g5 (g.2.2.2.1 + 1) 5 x5).2.2.1 (g.2.2.2.1 + 1) 5 = x5 := zu_at _ _ _ _
            have hbi5 := pBrc_i c N f k i3 (qSec q3 (q 117 35) (sortO x)) i3N
            have hbK5 := pBrc_K c N f k i3 (qSec q3 (q 117 35) (sortO x))
            have fin : jval (d + 5) 69 145 [.ref 35, .int (nI k), jjunk, jjunk, .ref (g.2.2.2.1 + 1)] [] (jGs L (jgsR g2 (g.2.2.2.1 + 1) 4 x2), I2, J2) = some (some (.ref (g.2.2.2.1 + 1)), (jGs L (jgsR g5 (g.2.2.2.1 + 1) 5 x5), I5, J5)) := by
              rw [e_ProgramReader_statement_145, u7, jcR_o]
              exact c_st_152 (d + 5) L g5 hnn hn5
            rcases hp5 : pBrc c N f k i3 (qSec q3 (q 117 35) (sortO x)) with ⟨b, i6, q6⟩
            rw [hp5] at u3 u5 u6 hbi5 hbK5
            have u4' : g5.2.2.2.1 + i3 ≤ g2.2.2.2.1 + N := u4
            cases b
            · refine ⟨jgsR g5 (g.2.2.2.1 + 1) 5 x5, I5, J5, F5, (hG5.1 0 6 (by omega)).trans (u2.trans r306), by show _ ≤ g5.2.2.2.1; omega, fun h => Bool.noConfusion h, by show g5.2.2.2.1 + i ≤ _; omega, cSt_f (u5.2 rfl), (hG5.2.2.1 _).1.trans hn5, r6, fun h => Bool.noConfusion h, fin⟩
            · obtain ⟨G6, Q6, q68⟩ := u5.1 rfl
              obtain ⟨-, n6⟩ := u6 rfl
              have n6' : nd L q6 g5 I5 g5.2.2.2.1 f (k + 1) g2.2.2.2.1 x5 (q3 117 35 + 1) (q6 117 35) := by rw [← s1]; exact n6
              have u3' : g5.2.2.2.1 + i3 ≤ g2.2.2.2.1 + i6 := u3 rfl
              have hK6 : qK (qSec q3 (q 117 35) (sortO x)) q6 := hbK5
              have K635 := hK6.1.1
              rw [s1] at K635
              have w6 : i3 + 2 ≤ i6 := (hbi5 rfl).1
              have q68' : q6 35 8 ≤ i6 := q68
              have hlt6 : q3 117 35 < q6 117 35 := by omega
              obtain ⟨f1, f2, f3, f4, f5, f6, f7⟩ := qEnd_at (so := sortO x) hlt6
              -- what the end keeps of the steps
              have E6 : ∀ s, s < q6 117 35 → s ≠ q3 117 35 → qE q6 (qEnd q6 (q3 117 35) (sortO x)) s := fun s hs hne => ⟨qEnd_r (by omega), qEnd_r (by omega), qEnd_r (by omega), qEnd_r (by omega), qEnd_r (by omega), qEnd_r (by omega)⟩
              have E3 : ∀ s, s < q3 117 35 → s ≠ q 117 35 → qE q3 (qEnd q6 (q3 117 35) (sortO x)) s := fun s hs hne => by
                obtain ⟨m1, m2, m3, m4, m5, m6⟩ := E6 s (by omega) (by omega)
                obtain ⟨l1, l2, l3, l4, l5, l6⟩ := hK6.2.1 s (by omega)
                exact ⟨m1.trans (l1.trans (qSec_r (by omega))), m2.trans (l2.trans (qSec_r (by omega))), m3.trans (l3.trans (qSec_r (by omega))), m4.trans (l4.trans (qSec_r (by omega))), m5.trans (l5.trans (qSec_r (by omega))), m6.trans (l6.trans (qSec_r (by omega)))⟩
              have EA : qEnd q6 (q3 117 35) (sortO x) 138 (q 117 35) = q3 138 (q 117 35) ∧ qEnd q6 (q3 117 35) (sortO x) 139 (q 117 35) = q3 139 (q 117 35) ∧ qEnd q6 (q3 117 35) (sortO x) 140 (q 117 35) = q3 140 (q 117 35) ∧ qEnd q6 (q3 117 35) (sortO x) 141 (q 117 35) = q3 141 (q 117 35) ∧ qEnd q6 (q3 117 35) (sortO x) 1000 (q 117 35) = q3 1000 (q 117 35) := by
                obtain ⟨m1, m2, m3, m4, m5, m6⟩ := E6 (q 117 35) (by omega) (by omega)
                obtain ⟨l1, l2, l3, l4, l5, l6⟩ := hK6.2.1 (q 117 35) (by omega)
                exact ⟨m1.trans (l1.trans (qSec_r (by omega))), m2.trans (l2.trans (qSec_r (by omega))), m3.trans (l3.trans (qSec_r (by omega))), m4.trans (l4.trans (qSec_r (by omega))), m6.trans (l6.trans (qSec_r (by omega)))⟩
              have EA2 : qEnd q6 (q3 117 35) (sortO x) 142 (q 117 35) = q3 117 35 + 1 := by
                obtain ⟨m1, m2, m3, m4, m5, m6⟩ := E6 (q 117 35) (by omega) (by omega)
                obtain ⟨l1, l2, l3, l4, l5, l6⟩ := hK6.2.1 (q 117 35) (by omega)
                exact m5.trans (l5.trans s6)
              obtain ⟨l1, l2, l3, l4, l5, l6⟩ := hK6.2.1 (q3 117 35) (by omega)
              have P3 : qP q3 (qEnd q6 (q3 117 35) (sortO x)) := qP_t qP_Sec (qP_t (qK_P hK6) qP_End)
              have I5n : ∀ kk, I5 (g.2.2.2.1 + 1) kk = I2 (g.2.2.2.1 + 1) kk := fun kk => u1.1 _ kk (by show _ ≤ g2.2.2.2.1; omega) (by omega)
              refine ⟨jgsR g5 (g.2.2.2.1 + 1) 5 x5, I5, J5, F5, (hG5.1 0 6 (by omega)).trans (u2.trans r306), by show _ ≤ g5.2.2.2.1; omega, fun _ => ?_, by show g5.2.2.2.1 + i ≤ _; omega, cSt_t G6 (cQ_End Q6) (by rw [qEnd_r (by omega)]; exact q68'), (hG5.2.2.1 _).1.trans hn5, r6, fun _ => ?_, fin⟩
              · show g5.2.2.2.1 + i ≤ g.2.2.2.1 + i6
                omega
              · show nS (qEnd q6 (q3 117 35) (sortO x)) I5 (g.2.2.2.1 + 1) (q 117 35) ∧ bS (qEnd q6 (q3 117 35) (sortO x)) (q 117 35) ∧ q 117 35 < qEnd q6 (q3 117 35) (sortO x) 117 35 ∧ nB (qEnd q6 (q3 117 35) (sortO x)) (jgsR g5 (g.2.2.2.1 + 1) 5 x5) (nd L (qEnd q6 (q3 117 35) (sortO x)) (jgsR g5 (g.2.2.2.1 + 1) 5 x5) I5 g5.2.2.2.1 f) k (g.2.2.2.1 + 1) (q 117 35) (qEnd q6 (q3 117 35) (sortO x) 117 35)
                refine ⟨nS_I I5n (nS_q EA b7''), bS_q P3 EA z1'', by omega, Or.inr (Or.inr ⟨k5, by omega, q3 117 35, q6 117 35, ?_, hlt3, hlt6, f1, ?_, ?_⟩)⟩
                · refine ⟨EA2, ?_, ?_, ?_, ?_, f6, f2, ?_⟩
                  · rw [qEnd_r (by omega), l1, s2]
                  · rw [qEnd_r (by omega), l2, s3, EA.2.1]
                  · rw [qEnd_r (by omega), l3, s4, EA.2.2.1]
                  · rw [qEnd_r (by omega), l4, s5, EA.1, z2'']
                  · rw [f5, EA.1, z2'']
                · rw [r4]
                  refine nd_lo f (k + 1) g1.2.2.2.1 _ _ _ _ (by omega) (nd_q P3 f (k + 1) g1.2.2.2.1 x2 _ _ (fun s y1 y2 => E3 s (by omega) (by omega)) ?_)
                  rw [← z3]
                  refine nd_h uC' f (k + 1) g1.2.2.2.1 x2 _ _ (fun n' y1 y2 => ⟨fun kk => u1.1 n' kk y2 (by omega), ?_, ?_, ?_, ?_⟩) n3'
                  · exact (hG5.2.2.1 n').1.trans ((u1.2.2.1 n' y2).1.trans (hG2.2.2.1 n').1)
                  · exact (hG5.1 n' 4 (by omega)).trans ((u1.2.2.2.1 n' 4 y2 (by omega)).trans (hG2.1 n' 4 (by omega)))
                  · exact (hG5.1 n' 5 (by omega)).trans ((u1.2.2.2.1 n' 5 y2 (by omega)).trans (hG2.1 n' 5 (by omega)))
                  · exact (hG5.1 n' 6 (by omega)).trans ((u1.2.2.2.1 n' 6 y2 (by omega)).trans (hG2.1 n' 6 (by omega)))
                · rw [r5]
                  refine nd_lo f (k + 1) g2.2.2.2.1 _ _ _ _ (by omega) (nd_q qP_End f (k + 1) g2.2.2.2.1 x5 _ _ (fun s y1 y2 => E6 s (by omega) (by omega)) ?_)
                  exact nd_h (Nat.le_refl _) f (k + 1) g2.2.2.2.1 x5 _ _ (fun n' y1 y2 => ⟨fun kk => rfl, (hG5.2.2.1 n').1, hG5.1 n' 4 (by omega), hG5.1 n' 5 (by omega), hG5.1 n' 6 (by omega)⟩) n6'
          · rw [if_neg h2p, if_neg h2p]
            have hso : sortO x = 6 ∨ sortO x = 7 := by
              have hx2 : x = 35 ∨ x = 42 := by omega
              rcases hx2 with e | e <;> rw [e] <;> decide
            have hlt3 : q 117 35 < q3 117 35 := by omega
            obtain ⟨f1, f2, f3, f4, f5, f6, f7⟩ := qEnd_at (so := sortO x) hlt3
            have E3 : ∀ s, s < q3 117 35 → s ≠ q 117 35 → qE q3 (qEnd q3 (q 117 35) (sortO x)) s := fun s hs hne => ⟨qEnd_r (by omega), qEnd_r (by omega), qEnd_r (by omega), qEnd_r (by omega), qEnd_r (by omega), qEnd_r (by omega)⟩
            have EA : qEnd q3 (q 117 35) (sortO x) 138 (q 117 35) = q3 138 (q 117 35) ∧ qEnd q3 (q 117 35) (sortO x) 139 (q 117 35) = q3 139 (q 117 35) ∧ qEnd q3 (q 117 35) (sortO x) 140 (q 117 35) = q3 140 (q 117 35) ∧ qEnd q3 (q 117 35) (sortO x) 141 (q 117 35) = q3 141 (q 117 35) ∧ qEnd q3 (q 117 35) (sortO x) 1000 (q 117 35) = q3 1000 (q 117 35) := ⟨qEnd_r (by omega), qEnd_r (by omega), qEnd_r (by omega), qEnd_r (by omega), qEnd_r (by omega)⟩
            refine ⟨jgsR g2 (g.2.2.2.1 + 1) 4 x2, I2, J2, F3, r306, by show _ ≤ g2.2.2.2.1; omega, fun _ => ?_, by show g2.2.2.2.1 + i ≤ _; omega, cSt_t G3 (cQ_End Q3) (by rw [qEnd_r (by omega)]; exact q38'), (hG2.2.2.1 _).1.trans hn2, r3n6, fun _ => ?_, rfl⟩
            · show g2.2.2.2.1 + i ≤ g.2.2.2.1 + i3
              omega
            · show nS (qEnd q3 (q 117 35) (sortO x)) I2 (g.2.2.2.1 + 1) (q 117 35) ∧ bS (qEnd q3 (q 117 35) (sortO x)) (q 117 35) ∧ q 117 35 < qEnd q3 (q 117 35) (sortO x) 117 35 ∧ nB (qEnd q3 (q 117 35) (sortO x)) (jgsR g2 (g.2.2.2.1 + 1) 4 x2) (nd L (qEnd q3 (q 117 35) (sortO x)) (jgsR g2 (g.2.2.2.1 + 1) 4 x2) I2 g2.2.2.2.1 f) k (g.2.2.2.1 + 1) (q 117 35) (qEnd q3 (q 117 35) (sortO x) 117 35)
              refine ⟨nS_q EA b7'', bS_q qP_End EA z1'', by omega, Or.inr (Or.inl ⟨k5, by omega, q3 117 35, ⟨f6, f7, f2, ?_, ?_, ?_⟩, hlt3, f1, ?_⟩)⟩
              · rw [f3, EA.2.1]
              · rw [f4, EA.2.2.1]
              · rw [f5, EA.1, z2'']
              · have r4 : (jgsR g2 (g.2.2.2.1 + 1) 4 x2).2.2.1 (g.2.2.2.1 + 1) 4 = x2 := zu_at _ _ _ _
                rw [r4]
                refine nd_lo f (k + 1) g1.2.2.2.1 _ _ _ _ (by omega) (nd_q qP_End f (k + 1) g1.2.2.2.1 x2 _ _ (fun s y1 y2 => E3 s (by omega) (by omega)) ?_)
                rw [← z3]
                exact nd_h (Nat.le_refl _) f (k + 1) g1.2.2.2.1 x2 _ _ (fun n' y1 y2 => ⟨fun kk => rfl, (hG2.2.2.1 n').1, hG2.1 n' 4 (by omega), hG2.1 n' 5 (by omega), hG2.1 n' 6 (by omega)⟩) n3'
end MM

/-! THE CLASS: braces, by the block inside them -/
set_option maxRecDepth 100000
def jvo : Option Nat → Value
  | none => .null
  | some a => .ref a
theorem jcR_o {α : Type} (x : Option Nat) (S : jS) (kn : jS → Option α) (k : Nat → jS → Option α) : jcR (some (some (jvo x), S)) kn k = jo x (kn S) (fun b => k b S) := by
  cases x <;> rfl
/-- a reference of node n is written -/
def hG (L n : Nat) (g g' : jG) : Prop := (∀ a k, a ≠ n → g'.2.2.1 a k = g.2.2.1 a k) ∧ g'.2.2.1 n 6 = g.2.2.1 n 6 ∧ (∀ a, gK L g' a = gK L g a ∧ gN L g' a = gN L g a) ∧ g'.2.2.2.1 = g.2.2.2.1 ∧ g'.2.2.2.2 = g.2.2.2.2
theorem hG_r {L n : Nat} {g : jG} : hG L n g g := ⟨fun _ _ _ => rfl, rfl, fun _ => ⟨rfl, rfl⟩, rfl, rfl⟩
theorem hG_t {L n : Nat} {g g1 g2 : jG} (h : hG L n g g1) (h' : hG L n g1 g2) : hG L n g g2 := by
  obtain ⟨a1, a2, a3, a4, a5⟩ := h
  obtain ⟨b1, b2, b3, b4, b5⟩ := h'
  exact ⟨fun a k ha => (b1 a k ha).trans (a1 a k ha), b2.trans a2, fun a => ⟨(b3 a).1.trans (a3 a).1, (b3 a).2.trans (a3 a).2⟩, b4.trans a4, b5.trans a5⟩
theorem hG_s {L n k : Nat} {g : jG} {x : Option Nat} (hk : k ≠ 6) : hG L n g (jgsR g n k x) := ⟨fun a j ha => zu_a ha, zu_k (Ne.symm hk), fun _ => ⟨rfl, rfl⟩, rfl, rfl⟩
theorem fN_G {L C l n : Nat} {g g1 g2 : jG} {I I' : Nat → Nat → Int32} {J J' : Nat → Nat → Int64} (h : fN L C l g g1 I I' J J') (hG1 : hG L n g1 g2) (hn : C < n) : fN L C l g g2 I I' J J' := by
  obtain ⟨a1, a2, a3, a4, a5, a6⟩ := h
  obtain ⟨b1, b2, b3, b4, b5⟩ := hG1
  exact ⟨a1, a2, fun a ha => ⟨(b3 a).1.trans (a3 a ha).1, (b3 a).2.trans (a3 a ha).2⟩, fun a k ha hx => (b1 a k (by omega)).trans (a4 a k ha hx), by omega, by omega⟩
def BlkS (D L : Nat) (c : Nat → Nat) (N f k : Nat) : Prop := ∀ i q g I J, N + 1 ≤ f + i → lG c N i I → cQ q I → q 35 8 ≤ i → q 117 42 ≤ i → g.2.2.1 35 0 = some 2 → 170 ≤ g.2.2.2.1 → g.2.2.2.1 + N ≤ 600000 + i → g.2.2.2.2 + 7 * N ≤ 7302250 + 7 * i → ∃ g' I' J' x, fN L g.2.2.2.1 0 g g' I I' J J' ∧ g'.2.2.1 0 6 = g.2.2.1 0 6 ∧ ((pBlk c N f k i q).1 = true → g'.2.2.2.1 + i ≤ g.2.2.2.1 + (pBlk c N f k i q).2.1) ∧ g'.2.2.2.1 + i ≤ g.2.2.2.1 + N ∧ cSt c N (pBlk c N f k i q) I' ∧ ((pBlk c N f k i q).1 = true → nd L (pBlk c N f k i q).2.2 g' I' g'.2.2.2.1 f k g.2.2.2.1 x (q 117 35) ((pBlk c N f k i q).2.2 117 35)) ∧ jcall D 67 [.ref 35, .int (nI k)] (jGs L g, I, J) = some (some (jvo x), (jGs L g', I', J'))
def pBrc (c : Nat → Nat) (N f k i : Nat) (q : Nat → Nat → Nat) : Bool × Nat × (Nat → Nat → Nat) := if k < 5 ∧ pCh c N i = 123 then pGo (pBlk c N f (k + 1) (pSk c N i + 1) q) (fun i2 q2 => pTk c N 125 i2 q2) else (false, pSk c N i, q)
theorem pStm_brc (c : Nat → Nat) (N f k i : Nat) (q : Nat → Nat → Nat) (hv : vO (pCh c N i) = none) (h33 : pCh c N i ≠ 33) : pStm c N f k i q = pGo (pHd c N (pCh c N i) (pSk c N i + 1) (qSt q)) (fun i1 q1 => pGo (pBrc c N f k i1 q1) (fun i3 q3 => if pCh c N i = 63 ∨ pCh c N i = 43 then pGo (pBrc c N f k i3 (qSec q3 (q 117 35) (sortO (pCh c N i)))) (fun i6 q6 => (true, i6, qEnd q6 (q3 117 35) (sortO (pCh c N i)))) else (true, i3, qEnd q3 (q 117 35) (sortO (pCh c N i))))) := by
  unfold pStm
  rw [hv]
  simp only [if_neg h33]
  congr 1
  funext i1 q1
  unfold pBrc
  by_cases h1 : k < 5 ∧ pCh c N i1 = 123
  · rw [if_pos h1, if_pos h1, pGo_a]
    congr 1
    funext i2 q2
    congr 1
    funext i3 q3
    by_cases h2 : pCh c N i = 63 ∨ pCh c N i = 43
    · rw [if_pos h2, if_pos h2]
      unfold pTk
      by_cases h3 : pCh c N i3 = 123
      · rw [if_pos h3, if_pos ⟨h1.1, h3⟩, pGo_t, pGo_a]
      · rw [if_neg h3, if_neg (by omega), pGo_f, pGo_f]
    · rw [if_neg h2, if_neg h2]
  · rw [if_neg h1, if_neg h1, pGo_f]
theorem pBrc_i (c : Nat → Nat) (N f k i : Nat) (q : Nat → Nat → Nat) (hi : i ≤ N) : pI N 2 i q (pBrc c N f k i q) := by
  obtain ⟨hs1, hs2⟩ := pSk_le (c := c) hi
  unfold pBrc
  by_cases h : k < 5 ∧ pCh c N i = 123
  · rw [if_pos h]
    have hlt := pCh_lt (c := c) (N := N) (i := i) (by omega)
    exact pGo_i (pBlk_i c N f (k + 1) (pSk c N i + 1) q (by omega)) (fun i2 q2 z1 z2 z3 => pI_w (pTk_i c N 125 i2 q2 z2 (by omega)) (by omega) (by omega))
  · rw [if_neg h]; exact pI_f
theorem pStm_i (c : Nat → Nat) (N f k i : Nat) (q : Nat → Nat → Nat) (hi : i ≤ N) (hb : ¬ isB (pCh c N i) = false) : pI N 2 i q (pStm c N f k i q) := by
  obtain ⟨hs1, hs2⟩ := pSk_le (c := c) hi
  have eS : qSt q 117 42 = q 117 42 := qSt_r (by omega)
  cases hv : vO (pCh c N i) with
  | some v =>
    have hlt := pCh_lt (c := c) (N := N) (i := i) (by have := vO_lt hv; omega)
    unfold pStm
    rw [hv]
    exact pI_w (pVar_i c N v (pSk c N i + 1) (qSt q) (by omega)) (by omega) (by omega)
  | none =>
    by_cases h33 : pCh c N i = 33
    · have hlt := pCh_lt (c := c) (N := N) (i := i) (by omega)
      unfold pStm
      rw [hv]
      simp only [if_pos h33]
      exact pI_w (pAl_i c N (pSk c N i) (pSk c N i + 1) (qSt q) (by omega)) (by omega) (by omega)
    · have hx := isB_t hb hv h33
      have hlt := pCh_lt (c := c) (N := N) (i := i) (by omega)
      rw [pStm_brc c N f k i q hv h33]
      refine pGo_i (pHd_i c N (pCh c N i) (pSk c N i + 1) (qSt q) (by omega)) (fun i1 q1 y1 y2 y3 => ?_)
      refine pGo_i (pBrc_i c N f k i1 q1 y2) (fun i3 q3 w1 w2 w3 => ?_)
      split
      · have eC : qSec q3 (q 117 35) (sortO (pCh c N i)) 117 42 = q3 117 42 := by unfold qSec qMate; rw [zu_a (by omega), qCome_r (by omega) (by omega)]
        refine pGo_i (pBrc_i c N f k i3 _ w2) (fun i6 q6 s1 s2 s3 => ?_)
        have eE : qEnd q6 (q3 117 35) (sortO (pCh c N i)) 117 42 = q6 117 42 := by unfold qEnd qMate; rw [zu_a (by omega), zu_a (by omega), qCome_r (by omega) (by omega)]
        exact fun _ => ⟨show i + 2 ≤ i6 by omega, s2, show qEnd q6 (q3 117 35) (sortO (pCh c N i)) 117 42 + i ≤ q 117 42 + i6 by omega⟩
      · have eE : qEnd q3 (q 117 35) (sortO (pCh c N i)) 117 42 = q3 117 42 := by unfold qEnd qMate; rw [zu_a (by omega), zu_a (by omega), qCome_r (by omega) (by omega)]
        exact fun _ => ⟨show i + 2 ≤ i3 by omega, w2, show qEnd q3 (q 117 35) (sortO (pCh c N i)) 117 42 + i ≤ q 117 42 + i3 by omega⟩
section MM
variable (d L : Nat) (g : jG)
theorem c_begins {c : Nat → Nat} {N i : Nat} {I : Nat → Nat → Int32} {J : Nat → Nat → Int64} (hc : ∀ i, i < N → c i < 128) : jcall (d + 2) 68 [.int (hV c N (pSk c N i))] (jGs L g, I, J) = some (some (.int (bI (isB (pCh c N i)))), (jGs L g, I, J)) := by
  have e : ∀ b : Int32, ∀ x, b = nI x → x < 128 → (hV c N (pSk c N i) = b) = (pCh c N i = x) := fun b x hb hx => by rw [hb, hV_pCh hc hx]
  have e37 : jval (d + 1) 68 37 [jjunk] [] (jGs L g, I, J) = some (some (.int (bI true)), (jGs L g, I, J)) := by
    rw [e_ProgramReader_begins_37, e_ProgramReader_begins_42, jif_t (Or.inr rfl)]
    rfl
  rw [c_ProgramReader_begins, e_ProgramReader_begins_0, c_variableOf d L g hc, jcI_some, e_ProgramReader_begins_4, oO_ge vO4, e 33 33 rfl (by omega), e 63 63 rfl (by omega), e 35 35 rfl (by omega), e 43 43 rfl (by omega), e 42 42 rfl (by omega), e37]
  unfold isB
  cases hv : vO (pCh c N i) with
  | some v => rw [jif_t (show (some v).isSome = true from rfl)]; rfl
  | none =>
    rw [jif_f (by decide)]
    by_cases h33 : pCh c N i = 33
    · rw [jif_t h33, decide_eq_true (Or.inl h33)]; rfl
    · rw [jif_f h33]
      by_cases h63 : pCh c N i = 63
      · rw [jif_t h63, decide_eq_true (by omega)]; rfl
      · rw [jif_f h63]
        by_cases h35 : pCh c N i = 35
        · rw [jif_t h35, decide_eq_true (by omega)]; rfl
        · rw [jif_f h35]
          by_cases h43 : pCh c N i = 43
          · rw [jif_t h43, decide_eq_true (by omega)]; rfl
          · rw [jif_f h43]
            by_cases h42 : pCh c N i = 42
            · rw [jif_t h42, decide_eq_true (by omega)]; rfl
            · rw [jif_f h42, e_ProgramReader_begins_42, jif_t (Or.inl rfl), decide_eq_false (by omega)]; rfl
theorem c_braces {c : Nat → Nat} {N f k i : Nat} {q : Nat → Nat → Nat} {I : Nat → Nat → Int32} {J : Nat → Nat → Int64} (hN : N ≤ 120) (hc : ∀ i, i < N → c i < 128) (hk : k ≤ 5) (hB : k < 5 → BlkS (d + 2) L c N f (k + 1)) (hf : N ≤ f + i) (h : lG c N i I) (hq : cQ q I) (h8 : q 35 8 ≤ i) (h42 : q 117 42 ≤ i) (hg : g.2.2.1 35 0 = some 2) (h168 : 170 ≤ g.2.2.2.1) (hC : g.2.2.2.1 + N ≤ 600000 + i) (hQ : g.2.2.2.2 + 7 * N ≤ 7302250 + 7 * i) : ∃ g' I' J' x, fN L g.2.2.2.1 0 g g' I I' J J' ∧ g'.2.2.1 0 6 = g.2.2.1 0 6 ∧ ((pBrc c N f k i q).1 = true → g'.2.2.2.1 + i ≤ g.2.2.2.1 + (pBrc c N f k i q).2.1) ∧ g'.2.2.2.1 + i ≤ g.2.2.2.1 + N ∧ cSt c N (pBrc c N f k i q) I' ∧ ((pBrc c N f k i q).1 = true → k < 5 ∧ nd L (pBrc c N f k i q).2.2 g' I' g'.2.2.2.1 f (k + 1) g.2.2.2.1 x (q 117 35) ((pBrc c N f k i q).2.2 117 35)) ∧ jcall (d + 3) 75 [.ref 35, .int (nI k)] (jGs L g, I, J) = some (some (jvo x), (jGs L g', I', J')) := by
  obtain ⟨hs1, hs2⟩ := pSk_le (c := c) h.1
  have hi := h.1
  unfold pBrc
  by_cases h1 : k < 5 ∧ pCh c N i = 123
  · rw [if_pos h1]
    have hlt := pCh_lt (c := c) (N := N) (i := i) (by omega)
    obtain ⟨I1, a1, a2, a3⟩ := c_take_t d L g (J := J) hN hc hg (show 123 < 128 by omega) h h1.2
    obtain ⟨g2, I2, J2, x, b1, b2, b3, b4, b5, b6, b7⟩ := hB h1.1 (pSk c N i + 1) q g I1 J (by omega) a2 (cQ_c hq a1) (by omega) (by omega) hg h168 (by omega) (by omega)
    have hg2 : g2.2.2.1 35 0 = some 2 := (b1.2.2.2.1 35 0 (by omega) (by omega)).trans hg
    have hj := pBlk_i c N f (k + 1) (pSk c N i + 1) q (by omega)
    have s22 : jcall (d + 3) 75 [.ref 35, .int (nI k)] (jGs L g, I, J) = jcV (jcall (d + 2) 79 [.ref 35, .int (nI 125)] (jGs L g2, I2, J2)) (fun S1 => jval (d + 2) 75 45 [jjunk, jjunk, jvo x] [] S1) := by
      rw [c_ProgramReader_braces, e_ProgramReader_braces_0, jif_t (show nI k < (5 : Int32) from nI_lt (b := 5) h1.1 (by omega)), show (123 : Int32) = nI 123 from rfl, a3, jcV_some, e_ProgramReader_braces_22, jif_t (show I1 35 3 = (0 : Int32) from a2.2.2), nI_1, b7, jcR_o]
      cases x with
      | none => show jval (d + 2) 75 38 [.ref 35, jjunk, jjunk] [.null] _ = _; rw [e_ProgramReader_braces_38]; rfl
      | some a => show jval (d + 2) 75 38 [.ref 35, jjunk, jjunk] [.ref a] _ = _; rw [e_ProgramReader_braces_38a]; rfl
    have s45 : ∀ S : jS, ∀ I3, S = (jGs L g2, I3, J2) → jval (d + 2) 75 45 [jjunk, jjunk, jvo x] [] S = some (some (jvo x), S) := by
      intro S I3 hS
      subst hS
      cases x with
      | none => exact e_ProgramReader_braces_45 ..
      | some a => exact e_ProgramReader_braces_45a ..
    rcases hp : pBlk c N f (k + 1) (pSk c N i + 1) q with ⟨b, i2, q2⟩
    rw [hp] at b3 b5 b6 hj
    have F1 : fN L g.2.2.2.1 0 g g2 I I2 J J2 := fN_t (fN_e (fun a k _ hx => a1 a k (by omega))) b1
    cases b
    · obtain ⟨I3, e1, e2, e3⟩ := c_take_f d L g2 (J := J2) (x := 125) hN hc hg2 (by omega) (b5.2 rfl)
      refine ⟨g2, I3, J2, x, fN_t F1 (fN_e (fun a k _ hx => e1 a k (by omega))), b2, fun h => Bool.noConfusion h, by omega, cSt_f e2, fun h => Bool.noConfusion h, ?_⟩
      rw [s22, e3, jcV_some, s45 _ I3 rfl]
    · obtain ⟨G2, Q2, q28⟩ := b5.1 rfl
      have hb3 : g2.2.2.2.1 + (pSk c N i + 1) ≤ g.2.2.2.1 + i2 := b3 rfl
      have hj1 : pSk c N i + 1 + 0 ≤ i2 := (hj rfl).1
      have q28' : q2 35 8 ≤ i2 := q28
      have hi2 : i2 ≤ N := G2.1
      obtain ⟨t1, t2⟩ := pSk_le (c := c) hi2
      have hnd := b6 rfl
      rw [pGo_t]
      unfold pTk
      by_cases h125 : pCh c N i2 = 125
      · have lt2 := pCh_lt (c := c) (N := N) (i := i2) (by omega)
        rw [if_pos h125]
        obtain ⟨I3, e1, e2, e3⟩ := c_take_t d L g2 (J := J2) hN hc hg2 (show 125 < 128 by omega) G2 h125
        refine ⟨g2, I3, J2, x, fN_t F1 (fN_e (fun a k _ hx => e1 a k (by omega))), b2, fun _ => ?_, by omega, cSt_t e2 (cQ_c Q2 e1) (by omega), fun _ => ⟨h1.1, ?_⟩, ?_⟩
        · show g2.2.2.2.1 + i ≤ g.2.2.2.1 + (pSk c N i2 + 1)
          omega
        · exact nd_h (Nat.le_refl _) f (k + 1) g.2.2.2.1 x (q 117 35) (q2 117 35) (fun n y1 y2 => ⟨fun k => e1 n k (by omega), rfl, rfl, rfl, rfl⟩) hnd
        · rw [s22, e3, jcV_some, s45 _ I3 rfl]
      · rw [if_neg h125]
        obtain ⟨I3, e1, e2, e3⟩ := c_take_n d L g2 (J := J2) hN hc hg2 (show 125 < 128 by omega) G2 h125
        refine ⟨g2, I3, J2, x, fN_t F1 (fN_e (fun a k _ hx => e1 a k (by omega))), b2, fun h => Bool.noConfusion h, by omega, cSt_f e2, fun h => Bool.noConfusion h, ?_⟩
        rw [s22, e3, jcV_some, s45 _ I3 rfl]
  · rw [if_neg h1]
    by_cases h5 : k < 5
    · obtain ⟨I1, a1, a2, a3⟩ := c_take_n d L g (J := J) hN hc hg (show 123 < 128 by omega) h (fun e => h1 ⟨h5, e⟩)
      refine ⟨g, I1, J, none, fN_e (fun a k _ hx => a1 a k (by omega)), rfl, fun h => Bool.noConfusion h, by omega, cSt_f a2, fun h => Bool.noConfusion h, ?_⟩
      rw [c_ProgramReader_braces, e_ProgramReader_braces_0, jif_t (show nI k < (5 : Int32) from nI_lt (b := 5) h5 (by omega)), show (123 : Int32) = nI 123 from rfl, a3, jcV_some, e_ProgramReader_braces_22, jif_f (by rw [a2.2.1]; decide)]
      rfl
    · obtain ⟨I1, a1, a2, a3⟩ := c_peek (d + 1) L g (J := J) hN hc hg hi h.2.1
      refine ⟨g, _, J, none, fN_e (fun a k _ hx => ?_), rfl, fun h => Bool.noConfusion h, by omega, cSt_f (fF_now hs2 a2), fun h => Bool.noConfusion h, ?_⟩
      · rw [ju_ne (by omega), ju_ne (by omega), a1 a k (by omega)]
      · rw [c_ProgramReader_braces, e_ProgramReader_braces_0, jif_f (show ¬ nI k < (5 : Int32) from nI_nlt (b := 5) (by omega) (by omega)), a3, jcI_some, e_ProgramReader_braces_9, c_fail_t (d + 1) L g (by rw [a1 _ _ (by omega)]; exact h.2.2), jcV_some, e_ProgramReader_braces_14]
        rfl
end MM

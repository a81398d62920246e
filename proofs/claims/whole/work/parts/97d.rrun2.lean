/-! RUNS, THE REFERENCE: all of a run -/
set_option maxRecDepth 100000
theorem fU_70 (I : Nat → Nat → Int32) (J : Nat → Nat → Int64) (x : Int32) : fU I (ju I 117 70 x) J J := ⟨fun a j hx => ju_ne (by unfold uXr at hx; omega), fun _ _ _ => rfl⟩
theorem rU_70 {s : uS} {I : Nat → Nat → Int32} {J : Nat → Nat → Int64} (h : rU s I J) : rU s (ju I 117 70 0) J := by
  obtain ⟨u1, u2, u3, u4, u5⟩ := h
  exact ⟨u1, ⟨by rw [zu_k (by omega)]; exact u2.1, u2.2⟩, zu_at _ _ _ _, ⟨by rw [zu_k (by omega)]; exact u4.1, u4.2⟩, uT_cg u5 (fun j => zu_a (by omega)) (fun j => zu_a (by omega))⟩
theorem rU_69 {s : uS} {I : Nat → Nat → Int32} {J : Nat → Nat → Int64} (h : rU s I J) : rU s (ju I 117 69 (nI s.2.1)) J := by
  obtain ⟨u1, u2, u3, u4, u5⟩ := h
  exact ⟨u1, ⟨zu_at _ _ _ _, u2.2⟩, by rw [zu_k (by omega)]; exact u3, ⟨by rw [zu_k (by omega)]; exact u4.1, u4.2⟩, uT_cg u5 (fun j => zu_a (by omega)) (fun j => zu_a (by omega))⟩
/-- what the steps from a to b do: r, or the run is lost -/
def rGo (D L : Nat) (g : jG) (a b : Nat) (r : Option uS) (I : Nat → Nat → Int32) (J : Nat → Nat → Int64) : Prop := match r with
  | some s' => ∃ I' J', fU I I' J J' ∧ rU s' I' J' ∧ s'.2.1 ≤ 100 ∧ jval D 239 59 [.ref 117, jjunk, .int (nI a), jjunk, jjunk] [] (jGs L g, I, J) = jval D 239 59 [.ref 117, jjunk, .int (nI b), jjunk, jjunk] [] (jGs L g, I', J')
  | none => ∃ I' J', fU I I' J J' ∧ jval D 239 59 [.ref 117, jjunk, .int (nI a), jjunk, jjunk] [] (jGs L g, I, J) = some (some (.int (-6 : Int32)), (jGs L g, I', J'))
theorem rGo_t {D L : Nat} {g : jG} {a b c : Nat} {r : Option uS} {s1 : uS} {I I1 : Nat → Nat → Int32} {J J1 : Nat → Nat → Int64} (hf : fU I I1 J J1) (h1 : jval D 239 59 [.ref 117, jjunk, .int (nI a), jjunk, jjunk] [] (jGs L g, I, J) = jval D 239 59 [.ref 117, jjunk, .int (nI b), jjunk, jjunk] [] (jGs L g, I1, J1)) (h2 : rGo D L g b c r I1 J1) : rGo D L g a c r I J := by
  cases r with
  | none =>
    obtain ⟨I', J', z1, z2⟩ := h2
    exact ⟨I', J', fU_t hf z1, h1.trans z2⟩
  | some s' =>
    obtain ⟨I', J', z1, z2, z3, z4⟩ := h2
    exact ⟨I', J', fU_t hf z1, z2, z3, h1.trans z4⟩
/-- one block behind another -/
theorem rGo_b {D L : Nat} {g : jG} {a b c : Nat} {r : Option uS} {K : uS → Option uS} {I : Nat → Nat → Int32} {J : Nat → Nat → Int64} (h1 : rGo D L g a b r I J) (h2 : ∀ s1 I1 J1, r = some s1 → fU I I1 J J1 → rU s1 I1 J1 → s1.2.1 ≤ 100 → rGo D L g b c (K s1) I1 J1) : rGo D L g a c (r.bind K) I J := by
  cases r with
  | none => exact h1
  | some s1 =>
    obtain ⟨I1, J1, z1, z2, z3, z4⟩ := h1
    exact rGo_t (s1 := s1) z1 z4 (h2 s1 I1 J1 rfl z1 z2 z3)
section MM
variable (d L : Nat) (g : jG)
theorem r_go_ok {q : Nat → Nat → Nat} {I I1 : Nat → Nat → Int32} {J J1 : Nat → Nat → Int64} {a b n : Nat} (hQ : rQ q I) (ha : a < q 117 35) (h35 : q 117 35 ≤ 120) (h70 : I 117 70 = 0) (h : jcall (d + 9) 238 [.ref 117, .int (nI a)] (jGs L g, I, J) = some (some (.int (nI b)), (jGs L g, I1, J1))) (h1 : I1 117 70 = 0) (h2 : I1 117 69 = nI n) (hn : n ≤ 100) : jval (d + 9) 239 59 [.ref 117, jjunk, .int (nI a), jjunk, jjunk] [] (jGs L g, I, J) = jval (d + 9) 239 59 [.ref 117, jjunk, .int (nI b), jjunk, jjunk] [] (jGs L g, ju I1 117 70 0, J1) := by
  rw [e_TextValuesModel_runs_59, hQ.1.1, jif_f (nI_ge (by omega) (by omega)), jif_t h70, h, jcI_some, e_TextValuesModel_runs_79, jif_t h1, h2, jif_t (show nI n ≤ (100 : Int32) from nI_le (b := 100) hn (by omega)), e_TextValuesModel_runs_102, jif_t (Or.inl rfl)]
theorem r_go_no {q : Nat → Nat → Nat} {I I1 : Nat → Nat → Int32} {J J1 : Nat → Nat → Int64} {a b n : Nat} (hQ : rQ q I) (ha : a < q 117 35) (h35 : q 117 35 ≤ 120) (h70 : I 117 70 = 0) (h : jcall (d + 9) 238 [.ref 117, .int (nI a)] (jGs L g, I, J) = some (some (.int (nI b)), (jGs L g, I1, J1))) (h2 : I1 117 69 = nI n) (hn : n ≤ 101) (hl : I1 117 70 = 1 ∨ (I1 117 70 = 0 ∧ n = 101)) : jval (d + 9) 239 59 [.ref 117, jjunk, .int (nI a), jjunk, jjunk] [] (jGs L g, I, J) = some (some (.int (-6 : Int32)), (jGs L g, ju I1 117 70 1, J1)) := by
  have e97 : jval (d + 9) 239 97 [.ref 117, jjunk, .int (nI b), jjunk, jjunk] [.ref 117] (jGs L g, I1, J1) = some (some (.int (-6 : Int32)), (jGs L g, ju I1 117 70 1, J1)) := by
    have e108 : jval (d + 9) 239 108 [.ref 117, jjunk, jjunk, jjunk, jjunk] [] (jGs L g, ju I1 117 70 1, J1) = some (some (.int (-6 : Int32)), (jGs L g, ju I1 117 70 1, J1)) := by
      rw [e_TextValuesModel_runs_108, jif_f (by rw [zu_at]; decide)]
    rw [e_TextValuesModel_runs_97, e_TextValuesModel_runs_102, jif_t (Or.inr rfl), e_TextValuesModel_runs_59, zu_at, jif_f (show ¬ (1 : Int32) = 0 by decide), e108]
    by_cases hc : ju I1 117 70 1 117 35 ≤ nI b
    · rw [jif_t hc]
    · rw [jif_f hc]
  rw [e_TextValuesModel_runs_59, hQ.1.1, jif_f (nI_ge (by omega) (by omega)), jif_t h70, h, jcI_some, e_TextValuesModel_runs_79, h2]
  rcases hl with e | ⟨e, en⟩
  · rw [jif_f (by rw [e]; decide)]
    exact e97
  · rw [jif_t e, en, jif_f (by decide)]
    exact e97
/-- one simple statement -/
theorem r_g1 {q : Nat → Nat → Nat} {P : Nat → kA} {I : Nat → Nat → Int32} {J : Nat → Nat → Int64} {a : Nat} {s : uS} (hD : rD q P I) (hU : rU s I J) (h100 : s.2.1 ≤ 100) (ha : a < q 117 35) (hb : bS q a) (h1 : 1 ≤ q 138 a) (h3 : q 138 a ≤ 3) : rGo (d + 9) L g a (a + 1) (if 100 ≤ s.2.1 then none else uS1 q P a (uC s)) I J := by
  have b35 := hD.2.2.1.2.2.1
  obtain ⟨I1, J1, c1, c2, c3, c4, c5⟩ := r_on_st d L g hD hU h100 ha hb h1 h3
  by_cases h : 100 ≤ s.2.1
  · rw [if_pos h]
    have e : s.2.1 = 100 := by omega
    refine ⟨_, J1, fU_t c1 (fU_70 I1 J1 1), r_go_no d L g hD.1 ha b35 hU.2.2.1 c5 c2 (by omega) ?_⟩
    cases hs : uS1 q P a (uC s) with
    | none => exact Or.inl (c3 hs)
    | some s' => exact Or.inr ⟨(c4 s' hs).2.2.1, by omega⟩
  · rw [if_neg h]
    cases hs : uS1 q P a (uC s) with
    | none => exact ⟨_, J1, fU_t c1 (fU_70 I1 J1 1), r_go_no d L g hD.1 ha b35 hU.2.2.1 c5 c2 (by omega) (Or.inl (c3 hs))⟩
    | some s' =>
      have U1 := c4 s' hs
      have en := uS1_n hs
      have en' : (uC s).2.1 = s.2.1 + 1 := rfl
      exact ⟨_, J1, fU_t c1 (fU_70 I1 J1 0), rU_70 U1, by omega, r_go_ok d L g hD.1 ha b35 hU.2.2.1 c5 U1.2.2.1 U1.2.1.1 (by omega)⟩
/-- one test -/
theorem r_g2 {q : Nat → Nat → Nat} {P : Nat → kA} {I : Nat → Nat → Int32} {J : Nat → Nat → Int64} {a mt : Nat} {s : uS} (hD : rD q P I) (hU : rU s I J) (h100 : s.2.1 ≤ 100) (ha : a < q 117 35) (hb : bS q a) (h4 : 4 ≤ q 138 a) (h7 : q 138 a ≤ 7) (hm : q 142 a = mt + 1) : rGo (d + 9) L g a (if (uTs q P a (uC s)).1 = true then a + 1 else mt + 1) (if 100 ≤ s.2.1 then none else some (uTs q P a (uC s)).2) I J := by
  have b35 := hD.2.2.1.2.2.1
  obtain ⟨I1, J1, c1, c2, c3⟩ := r_on_ts d L g hD hU h100 ha hb h4 h7 hm
  have en : (uTs q P a (uC s)).2.2.1 = s.2.1 + 1 := by rw [uTs_n]; rfl
  by_cases h : 100 ≤ s.2.1
  · rw [if_pos h]
    exact ⟨_, J1, fU_t c1 (fU_70 I1 J1 1), r_go_no d L g hD.1 ha b35 hU.2.2.1 c3 c2.2.1.1 (by omega) (Or.inr ⟨c2.2.2.1, by omega⟩)⟩
  · rw [if_neg h]
    exact ⟨_, J1, fU_t c1 (fU_70 I1 J1 0), rU_70 c2, by omega, r_go_ok d L g hD.1 ha b35 hU.2.2.1 c3 c2.2.2.1 c2.2.1.1 (by omega)⟩
/-- braces that close -/
theorem r_g8 {q : Nat → Nat → Nat} {P : Nat → kA} {I : Nat → Nat → Int32} {J : Nat → Nat → Int64} {a mt : Nat} {s : uS} (hD : rD q P I) (hU : rU s I J) (h100 : s.2.1 ≤ 100) (ha : a < q 117 35) (h8 : q 138 a = 8) (hm : q 142 a = mt + 1) : rGo (d + 9) L g a (mt + 1) (some s) I J := by
  have b35 := hD.2.2.1.2.2.1
  have ja : jin (nI a) 130 = true := jin_nI (by omega) (by omega)
  have ca : (nI a).toNatClampNeg = a := nI_c (by omega)
  have F1 := fU_69 I J (nI s.2.1)
  have D1 := rD_f hD F1
  have start := r_on_29 (d + 8) L g (J := J) hD.1 ha b35 h8 (by omega) (by omega) hU.2.1.1
  rw [show s.2.1 + (if (8 : Nat) ≤ 7 then 1 else 0) = s.2.1 from rfl] at start
  have j142 := (D1.1.2.1 a ha).2.2.2.2 mt hm
  have U1 := rU_69 hU
  refine ⟨_, J, fU_t F1 (fU_70 _ J 0), rU_70 U1, h100, r_go_ok d L g hD.1 ha b35 hU.2.2.1 ?_ U1.2.2.1 U1.2.1.1 h100⟩
  rw [start]
  show jval (d + 8) 238 249 _ _ _ = _
  rw [e_TextValuesModel_runsOn_249, ja, cond_true, ca, j142, nI_1]
theorem r_g9 {q : Nat → Nat → Nat} {P : Nat → kA} {I : Nat → Nat → Int32} {J : Nat → Nat → Int64} {a mt : Nat} {s : uS} (hD : rD q P I) (hU : rU s I J) (h100 : s.2.1 ≤ 100) (ha : a < q 117 35) (h9 : q 138 a = 9) (hk : 4 ≤ q 141 a ∧ q 141 a ≤ 7) (hm : q 141 a = 6 ∨ q 141 a = 7 → q 142 a = mt + 1) : rGo (d + 9) L g a (if q 141 a = 6 ∨ q 141 a = 7 then mt else a + 1) (some s) I J := by
  have b35 := hD.2.2.1.2.2.1
  have ja : jin (nI a) 130 = true := jin_nI (by omega) (by omega)
  have ca : (nI a).toNatClampNeg = a := nI_c (by omega)
  have F1 := fU_69 I J (nI s.2.1)
  have D1 := rD_f hD F1
  have start := r_on_29 (d + 8) L g (J := J) hD.1 ha b35 h9 (by omega) (by omega) hU.2.1.1
  rw [show s.2.1 + (if (9 : Nat) ≤ 7 then 1 else 0) = s.2.1 from rfl] at start
  obtain ⟨q1, q2, q3, q4, q5⟩ := D1.1.2.1 a ha
  have U1 := rU_69 hU
  refine ⟨_, J, fU_t F1 (fU_70 _ J 0), rU_70 U1, h100, r_go_ok d L g hD.1 ha b35 hU.2.2.1 ?_ U1.2.2.1 U1.2.1.1 h100⟩
  rw [start]
  show jval (d + 8) 238 258 _ _ _ = _
  rw [e_TextValuesModel_runsOn_258, ja, cond_true, ca, q4]
  have hc : q 141 a = 4 ∨ q 141 a = 5 ∨ q 141 a = 6 ∨ q 141 a = 7 := by omega
  rcases hc with e | e | e | e
  · rw [if_neg (by omega), e, jif_f (by decide), cond_true, jif_f (by decide), e_TextValuesModel_runsOn_292, nI_1]
  · rw [if_neg (by omega), e, jif_f (by decide), cond_true, jif_f (by decide), e_TextValuesModel_runsOn_292, nI_1]
  · rw [if_pos (by omega), e, jif_t (by decide), e_TextValuesModel_runsOn_280, ja, cond_true, ca, q5 mt (hm (by omega)), e_TextValuesModel_runsOn_292]
  · rw [if_pos (by omega), e, jif_f (by decide), cond_true, jif_t (by decide), e_TextValuesModel_runsOn_280, ja, cond_true, ca, q5 mt (hm (by omega)), e_TextValuesModel_runsOn_292]
theorem r_rlp {q : Nat → Nat → Nat} {P : Nat → kA} {a e : Nat} {B : uS → Option uS} (he : e < q 117 35) (hae : a < e) (hb : bS q a) (hkd : q 138 a = 6 ∨ q 138 a = 7) (hE : eE q a e) (hBn : ∀ s s', B s = some s' → s.2.1 ≤ s'.2.1) (hbody : ∀ s I J, rD q P I → rU s I J → s.2.1 ≤ 100 → rGo (d + 9) L g (a + 1) e (B s) I J) : ∀ m s I J, 101 ≤ m + s.2.1 → rD q P I → rU s I J → s.2.1 ≤ 100 → rGo (d + 9) L g a (e + 1) (uLoop B (uTs q P a) m s) I J := by
  obtain ⟨m1, m2, m3, m4, m5, m6⟩ := hE
  intro m
  induction m with
  | zero => intro s I J h1 hD hU h100; omega
  | succ m ih =>
    intro s I J h1 hD hU h100
    have h2 := r_g2 d L g hD hU h100 (by omega) hb (by omega) (by omega) m1
    have en : (uTs q P a (uC s)).2.2.1 = s.2.1 + 1 := by rw [uTs_n]; rfl
    unfold uLoop
    by_cases h : 100 ≤ s.2.1
    · rw [if_pos h] at h2 ⊢
      exact h2
    · rw [if_neg h] at h2 ⊢
      obtain ⟨I1, J1, c1, c2, c3, c4⟩ := h2
      by_cases ht : (uTs q P a (uC s)).1 = true
      · rw [if_pos ht] at c4 ⊢
        refine rGo_t (s1 := s) c1 c4 (rGo_b (hbody _ I1 J1 (rD_f hD c1) c2 c3) (fun s1 I2 J2 e1 f1 U1 n1 => ?_))
        have D2 := rD_f (rD_f hD c1) f1
        obtain ⟨I3, J3, z1, z2, z3, z4⟩ := r_g9 d L g (a := e) (mt := a) D2 U1 n1 he m3 (by omega) (fun _ => by omega)
        rw [if_pos (by omega)] at z4
        have := hBn _ _ e1
        exact rGo_t (s1 := s) z1 z4 (ih s1 I3 J3 (by omega) (rD_f D2 z1) z2 z3)
      · rw [if_neg ht] at c4 ⊢
        exact ⟨I1, J1, c1, c2, c3, c4⟩
theorem r_run {q : Nat → Nat → Nat} {P : Nat → kA} {L0 B0 : Nat} {g0 : jG} {I0 : Nat → Nat → Int32} : ∀ f k lo x a b s I J, nd L0 q g0 I0 B0 f k lo x a b → b ≤ q 117 35 → rD q P I → rU s I J → s.2.1 ≤ 100 → rGo (d + 9) L g a b (uBlk q P f a b s) I J := by
  intro f
  induction f with
  | zero =>
    intro k lo x a b s I J h hb hD hU h100
    obtain ⟨-, e⟩ := h
    subst e
    exact ⟨I, J, fU_r I J, hU, h100, rfl⟩
  | succ f ih =>
    intro k lo x a b s I J h hb hD hU h100
    rcases h with ⟨-, e⟩ | ⟨n, j, -, h2, h3, h4, h5, h6, h7, h8, h9, h10⟩
    · subst e
      unfold uBlk
      rw [if_pos rfl]
      exact ⟨I, J, fU_r I J, hU, h100, rfl⟩
    have hab : a ≠ b := by omega
    rcases h9 with ⟨y1, y2, y3⟩ | ⟨y1, y2, e, y3, y4, y5, y6⟩ | ⟨y1, y2, c, e, y3, y4, y5, y6, y7, y8⟩
    · subst y3
      have e : uBlk q P (f + 1) a b s = (if 100 ≤ s.2.1 then none else uS1 q P a (uC s)).bind (uBlk q P f (a + 1) b) := by
        conv => lhs; unfold uBlk
        rw [if_neg hab, if_pos y2]
        split <;> rfl
      rw [e]
      exact rGo_b (r_g1 d L g hD hU h100 (by omega) h6 y1 y2) (fun s1 I1 J1 _ f1 U1 n1 => ih k n _ (a + 1) b s1 I1 J1 h10 hb (rD_f hD f1) U1 n1)
    · subst y5
      have e1 : q 142 a - 1 = e := by have := y3.1; omega
      have eb : uBlk q P (f + 1) a b s = (uLoop (uBlk q P f (a + 1) e) (uTs q P a) 101 s).bind (uBlk q P f (e + 1) b) := by
        conv => lhs; unfold uBlk
        rw [if_neg hab, if_neg (by omega), if_neg (by omega), e1]
      rw [eb]
      exact rGo_b (r_rlp d L g (by omega) y4 h6 y2 y3 (fun s s' h => uBlk_n q P _ _ _ _ _ h) (fun s1 I1 J1 D1 U1 n1 => ih (k + 1) n _ (a + 1) e s1 I1 J1 y6 (by omega) D1 U1 n1) 101 s I J (by omega) hD hU h100) (fun s1 I1 J1 _ f1 U1 n1 => ih k n _ (e + 1) b s1 I1 J1 h10 hb (rD_f hD f1) U1 n1)
    · subst y6
      obtain ⟨z1, z2, z3, z4, z5, z6, z7, z8⟩ := y3
      have e1 : q 142 a - 1 = c := by omega
      have e2 : q 142 c - 1 = e := by omega
      have eb : uBlk q P (f + 1) a b s = (if 100 ≤ s.2.1 then none else some (uTs q P a (uC s)).2).bind (fun s1 => (if (uTs q P a (uC s)).1 = true then uBlk q P f (a + 1) c s1 else uBlk q P f (c + 1) e s1).bind (uBlk q P f (e + 1) b)) := by
        conv => lhs; unfold uBlk
        rw [if_neg hab, if_neg (by omega), if_pos y2, e1, e2]
        split <;> rfl
      rw [eb]
      have h2 := r_g2 d L g hD hU h100 (by omega) h6 (by omega) (by omega) z1
      refine rGo_b h2 (fun s1 I1 J1 es f1 U1 n1 => rGo_b ?_ (fun s2 I2 J2 _ f2 U2 n2 => ih k n _ (e + 1) b s2 I2 J2 h10 hb (rD_f (rD_f hD f1) f2) U2 n2))
      have D1 := rD_f hD f1
      by_cases ht : (uTs q P a (uC s)).1 = true
      · rw [if_pos ht, if_pos ht]
        have hx := rGo_b (K := fun s => some s) (c := e + 1) (ih (k + 1) n _ (a + 1) c s1 I1 J1 y7 (by omega) D1 U1 n1) (fun s2 I2 J2 _ f2 U2 n2 => r_g8 d L g (rD_f D1 f2) U2 n2 (by omega) z2 z6)
        rw [show ∀ o : Option uS, o.bind (fun s => some s) = o from fun o => by cases o <;> rfl] at hx
        exact hx
      · rw [if_neg ht, if_neg ht]
        have hx := rGo_b (K := fun s => some s) (c := e + 1) (ih (k + 1) n _ (c + 1) e s1 I1 J1 y8 (by omega) D1 U1 n1) (fun s2 I2 J2 _ f2 U2 n2 => by
          have := r_g9 d L g (mt := 0) (rD_f D1 f2) U2 n2 (show e < q 117 35 by omega) z7 (by omega) (fun h => by omega)
          rw [if_neg (by omega)] at this
          exact this)
        rw [show ∀ o : Option uS, o.bind (fun s => some s) = o from fun o => by cases o <;> rfl] at hx
        exact hx
/-- the whole run -/
noncomputable def uRun (q : Nat → Nat → Nat) (P : Nat → kA) (F x : Nat) : Option uS := uBlk q P F 0 (q 117 35) (x, 0, 0, fun _ => [])
theorem r_ru_39 {J : Nat → Nat → Int64} : ∀ m v (I : Nat → Nat → Int32), v + m = 4 → (∀ w, w < v → I 157 w = nI 0) → ∃ I', (∀ a j, a ≠ 157 → I' a j = I a j) ∧ (∀ w, w < 4 → I' 157 w = nI 0) ∧ jval d 239 39 [.ref 117, jjunk, .int (nI v), jjunk, jjunk] [] (jGs L g, I, J) = jval d 239 59 [.ref 117, jjunk, .int (nI 0), jjunk, jjunk] [] (jGs L g, I', J) := by
  intro m
  induction m with
  | zero =>
    intro v I hv h
    have e : v = 4 := by omega
    subst e
    refine ⟨I, fun _ _ _ => rfl, h, ?_⟩
    rw [e_TextValuesModel_runs_39, jif_t (show (4 : Int32) ≤ nI 4 from Int32.le_refl _), show (0 : Int32) = nI 0 from rfl]
  | succ m ih =>
    intro v I hv h
    obtain ⟨I', c1, c2, c3⟩ := ih (v + 1) (ju I 157 v (nI 0)) (by omega) (fun w hw => by
      by_cases e : w = v
      · rw [e, zu_at]
      · rw [zu_k e]; exact h w (by omega))
    refine ⟨I', fun a j ha => by rw [c1 a j ha, zu_a ha], c2, ?_⟩
    rw [e_TextValuesModel_runs_39, jif_f (show ¬ (4 : Int32) ≤ nI v from nI_ge (b := 4) (by omega) (by omega)), jin_nI (by omega) (by omega), cond_true, nI_c (by omega), nI_1]
    exact c3
theorem r_ru_140 {J : Nat → Nat → Int64} {v : Nat} (hv : v < 4) : ∀ m i (I : Nat → Nat → Int32), i + m = 40 → (∀ x, x < i → I 158 (40 * v + x) = I 156 (40 * v + x)) → ∃ I', (∀ a j, ¬ (a = 158 ∧ 40 * v ≤ j ∧ j < 40 * v + 40) → I' a j = I a j) ∧ (∀ x, x < 40 → I' 158 (40 * v + x) = I 156 (40 * v + x)) ∧ jval d 239 140 [.ref 117, jjunk, jjunk, .int (nI v), .int (nI i)] [] (jGs L g, I, J) = jval d 239 120 [.ref 117, jjunk, jjunk, .int (nI (v + 1)), jjunk] [] (jGs L g, I', J) := by
  intro m
  induction m with
  | zero =>
    intro i I hi h
    refine ⟨I, fun _ _ _ => rfl, fun x hx => h x (by omega), ?_⟩
    rw [e_TextValuesModel_runs_140, jif_t (show (40 : Int32) ≤ nI i from nI_le (a := 40) (by omega) (by omega)), nI_1]
  | succ m ih =>
    intro i I hi h
    obtain ⟨I', c1, c2, c3⟩ := ih (i + 1) (ju I 158 (40 * v + i) (I 156 (40 * v + i))) (by omega) (fun x hx => by
      rw [zu_a (show (156 : Nat) ≠ 158 by omega)]
      by_cases e : x = i
      · rw [e, zu_at]
      · rw [zu_k (by omega)]; exact h x (by omega))
    refine ⟨I', fun a j hn => by rw [c1 a j hn, ju_ne (by omega)], fun x hx => by rw [c2 x hx, zu_a (by omega)], ?_⟩
    rw [e_TextValuesModel_runs_140, jif_f (show ¬ (40 : Int32) ≤ nI i from nI_ge (b := 40) (by omega) (by omega)), show (40 : Int32) = nI 40 from rfl, nI_mul, nI_add, jin_nI (by omega) (by omega), cond_true, cond_true, nI_c (by omega), nI_1]
    exact c3
theorem r_ru_120 {J : Nat → Nat → Int64} {V : Nat → List Nat} {n r : Nat} : ∀ m v (I : Nat → Nat → Int32), v + m = 4 → uT V 157 156 I → I 117 69 = nI n → I 117 77 = nI r → (∀ w, w < v → I 159 w = I 157 w ∧ ∀ x, x < 40 → I 158 (40 * w + x) = I 156 (40 * w + x)) → ∃ I', (∀ a j, a ≠ 158 → a ≠ 159 → ¬ (a = 117 ∧ j = 78) → I' a j = I a j) ∧ uT V 159 158 I' ∧ I' 117 78 = nI r ∧ jval d 239 120 [.ref 117, jjunk, jjunk, .int (nI v), jjunk] [] (jGs L g, I, J) = some (some (.int (nI n)), (jGs L g, I', J)) := by
  intro m
  induction m with
  | zero =>
    intro v I hv hT h69 h77 h
    have e : v = 4 := by omega
    subst e
    refine ⟨ju I 117 78 (nI r), fun a j h1 h2 h3 => ju_ne (by omega), fun w hw => ?_, zu_at _ _ _ _, ?_⟩
    · obtain ⟨t1, t2, t3, t4⟩ := hT w hw
      exact ⟨t1, t2, by rw [zu_a (by omega), (h w hw).1]; exact t3, fun x hx => by rw [zu_a (by omega), (h w hw).2 x (by omega)]; exact t4 x hx⟩
    · rw [e_TextValuesModel_runs_120, jif_t (show (4 : Int32) ≤ nI 4 from Int32.le_refl _), h69, h77]
  | succ m ih =>
    intro v I hv hT h69 h77 h
    obtain ⟨I1, a1, a2, a3⟩ := r_ru_140 (d) L g (J := J) (v := v) (by omega) 40 0 (ju I 159 v (I 157 v)) (by omega) (fun x hx => by omega)
    have o1 : ∀ a j, a ≠ 158 → a ≠ 159 → I1 a j = I a j := fun a j h1 h2 => by rw [a1 a j (by omega), zu_a h2]
    obtain ⟨I', c1, c2, c3, c4⟩ := ih (v + 1) I1 (by omega) (uT_cg hT (fun j => o1 _ _ (by omega) (by omega)) (fun j => o1 _ _ (by omega) (by omega))) (by rw [o1 _ _ (by omega) (by omega)]; exact h69) (by rw [o1 _ _ (by omega) (by omega)]; exact h77) (fun w hw => by
      rw [o1 157 _ (by omega) (by omega)]
      by_cases e : w = v
      · subst e
        exact ⟨by rw [a1 _ _ (by omega), zu_at], fun x hx => by rw [a2 x hx, o1 156 _ (by omega) (by omega), zu_a (by omega)]⟩
      · exact ⟨by rw [a1 _ _ (by omega), zu_k e]; exact (h w (by omega)).1, fun x hx => by rw [a1 _ _ (by omega), zu_a (by omega), o1 156 _ (by omega) (by omega)]; exact (h w (by omega)).2 x hx⟩)
    refine ⟨I', fun a j h1 h2 h3 => by rw [c1 a j h1 h2 h3, o1 a j h1 h2], c2, c3, ?_⟩
    rw [e_TextValuesModel_runs_120, jif_f (show ¬ (4 : Int32) ≤ nI v from nI_ge (b := 4) (by omega) (by omega)), jin_nI (by omega) (by omega), cond_true, cond_true, nI_c (by omega), show (0 : Int32) = nI 0 from rfl, a3]
    exact c4
theorem r_runs {q : Nat → Nat → Nat} {P : Nat → kA} {L0 B0 F lo x : Nat} {y : Option Nat} {g0 : jG} {I0 I : Nat → Nat → Int32} {J : Nat → Nat → Int64} (hn : nd L0 q g0 I0 B0 F 0 lo y 0 (q 117 35)) (hD : rD q P I) (hx : x ≤ 999999) : ∃ I' J', (∀ a j, ¬ uXr a j → a ≠ 158 → a ≠ 159 → ¬ (a = 117 ∧ j = 78) → I' a j = I a j) ∧ (∀ a j, ¬ (a = 117 ∧ j = 68) → J' a j = J a j) ∧ ((∃ s, uRun q P F x = some s ∧ s.2.1 ≤ 100 ∧ s.2.2.1 ≤ 100 ∧ uT s.2.2.2 159 158 I' ∧ I' 117 78 = nI s.2.2.1 ∧ jval (d + 9) 239 8 [.ref 117, .int (nI x), jjunk, jjunk, jjunk] [.int (1 : Int32)] (jGs L g, I, J) = some (some (.int (nI s.2.1)), (jGs L g, I', J'))) ∨ (uRun q P F x = none ∧ (∀ a j, ¬ uXr a j → I' a j = I a j) ∧ jval (d + 9) 239 8 [.ref 117, .int (nI x), jjunk, jjunk, jjunk] [.int (1 : Int32)] (jGs L g, I, J) = some (some (.int (-6 : Int32)), (jGs L g, I', J')))) := by
  have b35 := hD.2.2.1.2.2.1
  obtain ⟨I1, a1, a2, a3⟩ := r_ru_39 (d + 9) L g (J := ju J 117 68 (nI x).toInt64) 4 0 (ju (ju (ju I 117 69 (0 : Int32)) 117 70 (0 : Int32)) 117 77 (0 : Int32)) (by omega) (fun w hw => by omega)
  have F1 : fU I I1 J (ju J 117 68 (nI x).toInt64) := ⟨fun a j hx => by
    have hx' := hx
    unfold uXr at hx'
    rw [a1 a j (by omega), ju_ne (by omega), ju_ne (by omega), ju_ne (by omega)], fun a j hx => ju_ne (by omega)⟩
  have U1 : rU (x, 0, 0, fun _ => []) I1 (ju J 117 68 (nI x).toInt64) := by
    refine ⟨⟨by rw [zu_at]; exact nI_l (by omega), by show x < 2147483648; omega⟩, ⟨?_, by show 0 ≤ 101; omega⟩, ?_, ⟨?_, Nat.le_refl 0⟩, fun v hv => ⟨by show 0 ≤ 40; omega, kW_nil, a2 v hv, fun x hx => absurd hx (by show ¬ x < 0; omega)⟩⟩
    · rw [a1 _ _ (by omega), zu_k (by omega), zu_k (by omega), zu_at]; rfl
    · rw [a1 _ _ (by omega), zu_k (by omega), zu_at]
    · rw [a1 _ _ (by omega), zu_at]; rfl
  have start : jval (d + 9) 239 8 [.ref 117, .int (nI x), jjunk, jjunk, jjunk] [.int (1 : Int32)] (jGs L g, I, J) = jval (d + 9) 239 59 [.ref 117, jjunk, .int (nI 0), jjunk, jjunk] [] (jGs L g, I1, ju J 117 68 (nI x).toInt64) := by
    rw [e_TextValuesModel_runs_8, jif_f (by decide), jif_t (Or.inl rfl), ← a3]
    rfl
  have hr := r_run d L g (P := P) F 0 lo y 0 (q 117 35) (x, 0, 0, fun _ => []) I1 _ hn (Nat.le_refl _) (rD_f hD F1) U1 (by show 0 ≤ 100; omega)
  rw [start]
  unfold uRun
  cases hu : uBlk q P F 0 (q 117 35) (x, 0, 0, fun _ => []) with
  | none =>
    rw [hu] at hr
    obtain ⟨I2, J2, z1, z2⟩ := hr
    have F2 := fU_t F1 z1
    exact ⟨I2, J2, fun a j hx _ _ _ => F2.1 a j hx, F2.2, Or.inr ⟨rfl, F2.1, z2⟩⟩
  | some s =>
    rw [hu] at hr
    obtain ⟨I2, J2, z1, z2, z3, z4⟩ := hr
    have F2 := fU_t F1 z1
    have D2 := rD_f hD F2
    obtain ⟨u1, u2, u3, u4, u5⟩ := z2
    obtain ⟨I3, c1, c2, c3, c4⟩ := r_ru_120 (d + 9) L g (J := J2) (V := s.2.2.2) (n := s.2.1) (r := s.2.2.1) 4 0 I2 (by omega) u5 u2.1 u4.1 (fun w hw => by omega)
    refine ⟨I3, J2, fun a j hx h1 h2 h3 => by rw [c1 a j h1 h2 h3]; exact F2.1 a j hx, F2.2, Or.inl ⟨s, rfl, z3, by have := u4.2; omega, c2, c3, ?_⟩⟩
    rw [z4, e_TextValuesModel_runs_59, D2.1.1.1, jif_t (Int32.le_refl _), e_TextValuesModel_runs_108, jif_t u3, show (0 : Int32) = nI 0 from rfl]
    exact c4
end MM

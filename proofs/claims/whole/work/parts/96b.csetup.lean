/-! ANALYSIS, THE CLASS: the setup, tests -/
set_option maxRecDepth 100000
/-- su is the setup: patterns P, program q, settings D and W; sr: the row of the alarms' texts -/
def cSu (L : Nat) (q : Nat → Nat → Nat) (P : Nat → kA) (D W su sr F : Nat) (g : jG) (I : Nat → Nat → Int32) (J : Nat → Nat → Int64) : Prop := okS su ∧ su ≤ g.2.2.2.1 ∧ gK L g su = 9 ∧ I su 2 = nI D ∧ I su 3 = nI W ∧ (∃ pr, gR L g su 0 = some pr ∧ okS pr ∧ pr ≤ g.2.2.2.1 ∧ gK L g pr = 17 ∧ gN L g pr = 4 ∧ ∀ i, i < 4 → ∃ x, gR L g pr i = some x ∧ okS x ∧ x ≤ g.2.2.2.1 ∧ cR L g I J x (P i)) ∧ ∃ p, gR L g su 1 = some p ∧ pg L q g I p F g.2.2.2.1 ∧ ∀ x, gR L g p 2 = some x ∨ gR L g p 3 = some x → ¬ mkO g x ∧ x ≠ sr
/-- cells that stay make a setup that stays -/
theorem cSu_s {L : Nat} {q : Nat → Nat → Nat} {P : Nat → kA} {D W su sr sr' F : Nat} {g g1 : jG} {I I1 : Nat → Nat → Int32} {J J1 : Nat → Nat → Int64} (h : cSu L q P D W su sr F g I J) (hC : g.2.2.2.1 ≤ g1.2.2.2.1)
    (st : ∀ a, okS a → a ≤ g.2.2.2.1 → (gK L g a = 2 ∨ gK L g a = 4 ∨ gK L g a = 6 ∨ gK L g a = 9 ∨ gK L g a = 17 ∨ (¬ mkO g a ∧ a ≠ sr)) → I1 a = I a ∧ J1 a = J a ∧ gK L g1 a = gK L g a ∧ gN L g1 a = gN L g a ∧ (∀ j, g1.2.2.1 a j = g.2.2.1 a j) ∧ (¬ mkO g a ∧ a ≠ sr → ¬ mkO g1 a ∧ a ≠ sr')) : cSu L q P D W su sr' F g1 I1 J1 := by
  obtain ⟨h1, h2, h3, h4, h5, ⟨pr, p1, p2, p3, p4, p5, p6⟩, p, q1, q2, q3⟩ := h
  obtain ⟨o1, o2, o3, o4, ⟨cr, c1, c2, c3, c4, c5, c6⟩, ⟨ar, a1, a2, a3, a4, a5, a6⟩, o7⟩ := q2
  have SU := st su h1 h2 (by omega)
  have PR := st pr p2 p3 (by omega)
  have PP := st p (okc_S o1) o2 (by omega)
  have CR := st cr (okc_S c2) c3 (Or.inr (Or.inr (Or.inr (Or.inr (Or.inr (q3 cr (Or.inl c1)))))))
  have AR := st ar (okc_S a2) a3 (Or.inr (Or.inr (Or.inr (Or.inr (Or.inr (q3 ar (Or.inr a1)))))))
  have rSU : ∀ j, gR L g1 su j = gR L g su j := fun j => gR_cg (SU.2.2.2.2.1 j)
  have rPR : ∀ j, gR L g1 pr j = gR L g pr j := fun j => gR_cg (PR.2.2.2.2.1 j)
  have rPP : ∀ j, gR L g1 p j = gR L g p j := fun j => gR_cg (PP.2.2.2.2.1 j)
  refine ⟨h1, by omega, SU.2.2.1.trans h3, by rw [SU.1]; exact h4, by rw [SU.1]; exact h5, ⟨pr, (rSU 0).trans p1, p2, by omega, PR.2.2.1.trans p4, PR.2.2.2.1.trans p5, fun i hi => ?_⟩, p, (rSU 1).trans q1, ⟨o1, by omega, PP.2.2.1.trans o3, by rw [PP.1]; exact o4, ⟨cr, (rPP 2).trans c1, c2, by omega, CR.2.2.1.trans c4, CR.2.2.2.1.trans c5, fun j hj => by rw [CR.1]; exact c6 j hj⟩, ⟨ar, (rPP 3).trans a1, a2, by omega, AR.2.2.1.trans a4, AR.2.2.2.1.trans a5, fun j hj => by rw [AR.1]; exact a6 j hj⟩, ?_⟩, fun x hx => ?_⟩
  · obtain ⟨x, x1, x2, x3, x4⟩ := p6 i hi
    have X := st x x2 x3 (Or.inl x4.1)
    exact ⟨x, (rPR i).trans x1, x2, by omega, cR_cg L g x4 X.2.2.1 X.1 X.2.1⟩
  · rw [rPP 0]
    refine nd_k hC F 0 170 _ 0 _ (fun n y1 y2 y3 => ?_) o7
    have N := st n (Or.inr (by omega)) y2 (by omega)
    exact ⟨fun k => by rw [N.1], N.2.2.1, N.2.2.2.2.1 4, N.2.2.2.2.1 5, N.2.2.2.2.1 6⟩
  · rw [rPP 2, rPP 3] at hx
    have hq := q3 x hx
    rcases hx with e | e
    · rw [c1] at e; cases e; exact CR.2.2.2.2.2 hq
    · rw [a1] at e; cases e; exact AR.2.2.2.2.2 hq
theorem cSu_f {L : Nat} {q : Nat → Nat → Nat} {P : Nat → kA} {D W su sr F k PC PQ : Nat} {g g1 : jG} {I I1 : Nat → Nat → Int32} {J J1 : Nat → Nat → Int64} (h : cSu L q P D W su sr F g I J) (hI : mkI L g I PC PQ) (hf : fZ L k sr g g1 I I1 J J1) (ks : gK L g sr = 14) : cSu L q P D W su sr F g1 I1 J1 := by
  refine cSu_s h hf.2.2.2 (fun a ha hC hk => ?_)
  have hn : ¬ mkO g a ∧ a ≠ sr := by
    by_cases hx : ¬ mkO g a ∧ a ≠ sr
    · exact hx
    · have hk' : gK L g a = 2 ∨ gK L g a = 4 ∨ gK L g a = 6 ∨ gK L g a = 9 ∨ gK L g a = 17 := by
        rcases hk with e | e | e | e | e | e
        · omega
        · omega
        · omega
        · omega
        · omega
        · exact absurd e hx
      exact ⟨mkO_K hI (by omega) (by omega) (by omega) (by omega), fun e => by rw [e, ks] at hk'; omega⟩
  have hz : ¬ zX k sr a := by
    have := hn.2
    unfold okS at ha
    unfold zX
    omega
  have h1 := hf.1 a hC hn.1
  exact ⟨(h1.1 hz).1, (h1.1 hz).2, (hf.2.1 a hC).1, (hf.2.1 a hC).2, fun j => hf.2.2.1 a j hC (by unfold okS at ha; omega), fun _ => ⟨h1.2, hn.2⟩⟩
/-- what stays through the class' analysis -/
def cB (L : Nat) (q : Nat → Nat → Nat) (P : Nat → kA) (D W su sr F PC PQ : Nat) (g : jG) (I : Nat → Nat → Int32) (J : Nat → Nat → Int64) : Prop := (mkI L g I PC PQ ∧ nM g) ∧ (g.2.2.1 39 2 = some su ∧ g.2.2.1 39 10 = some sr) ∧ (sr ≤ g.2.2.2.1 ∧ gK L g sr = 14 ∧ ¬ mkO g sr ∧ (sr = 50 ∨ 171 ≤ sr) ∧ 100 * q 117 42 ≤ gN L g sr ∧ gN L g sr ≤ 12000) ∧ cSu L q P D W su sr F g I J ∧ (D ≤ 5 ∧ W < 2 ∧ pBd 120 q ∧ q 35 8 ≤ 120)
/-- counters and alarms' texts stay -/
def eH (sr : Nat) (I I' : Nat → Nat → Int32) : Prop := I' 39 = I 39 ∧ I' 49 = I 49 ∧ I' sr = I sr
theorem eH_t {sr : Nat} {I I1 I2 : Nat → Nat → Int32} (h : eH sr I I1) (h' : eH sr I1 I2) : eH sr I I2 := ⟨h'.1.trans h.1, h'.2.1.trans h.2.1, h'.2.2.trans h.2.2⟩
theorem eH_r {sr : Nat} {I : Nat → Nat → Int32} : eH sr I I := ⟨rfl, rfl, rfl⟩
section CB
variable {L : Nat} {q : Nat → Nat → Nat} {P : Nat → kA} {D W su sr F k PC PQ : Nat} {g g1 : jG} {I I1 : Nat → Nat → Int32} {J J1 : Nat → Nat → Int64}
theorem cB_f (h : cB L q P D W su sr F PC PQ g I J) (hf : fZ L k sr g g1 I I1 J J1) (hI : mkI L g1 I1 PC PQ) : cB L q P D W su sr F PC PQ g1 I1 J1 := by
  obtain ⟨⟨h1, h2⟩, ⟨h3, h4⟩, ⟨h5, h6, h7, h8, h9, h10⟩, h11, h12⟩ := h
  have hC := mkI_C h1
  refine ⟨⟨hI, nM_f h2 hf hC⟩, ⟨(hf.2.2.1 39 2 (by omega) (by omega)).trans h3, (hf.2.2.1 39 10 (by omega) (by omega)).trans h4⟩, ⟨by have := hf.2.2.2; omega, (hf.2.1 sr h5).1.trans h6, (hf.1 sr h5 h7).2, h8, by rw [(hf.2.1 sr h5).2]; exact h9, by rw [(hf.2.1 sr h5).2]; exact h10⟩, cSu_f h11 h1 hf h6, h12⟩
/-- behind an operation on a language of the analysis -/
theorem cB_op {out : Nat} (h : cB L q P D W su sr F PC PQ g I J) (hf : fX L g g1 I I1 J J1 out) (hI : mkI L g1 I1 PC PQ) (ho : (42 ≤ out ∧ out ≤ 45) ∨ out = 47 ∨ out = 48 ∨ (51 + 12 * k ≤ out ∧ out ≤ 110)) : cB L q P D W su sr F PC PQ g1 I1 J1 ∧ fZ L k sr g g1 I I1 J J1 ∧ eH sr I I1 := by
  have hz : fZ L k sr g g1 I I1 J J1 := fZ_X hf (by unfold zX; omega)
  obtain ⟨⟨h1, h2⟩, ⟨h3, h4⟩, ⟨h5, h6, h7, h8, h9⟩, h11, h12⟩ := id h
  have hC := mkI_C h1
  exact ⟨cB_f h hz hI, hz, ((hf.1 39 (by omega) (h2 39 (by omega) (by omega))).1 (by omega)).1, ((hf.1 49 (by omega) (h2 49 (by omega) (by omega))).1 (by omega)).1, ((hf.1 sr h5 h7).1 (by omega)).1⟩
/-- behind changes of the analysis' own cells -/
theorem cB_o (h : cB L q P D W su sr F PC PQ g I J) (hI : ∀ a, ¬ zX k sr a → I1 a = I a ∧ J1 a = J a) : cB L q P D W su sr F PC PQ g I1 J1 ∧ fZ L k sr g g I I1 J J1 := by
  have hz : fZ L k sr g g I I1 J J1 := fZ_o hI
  obtain ⟨⟨h1, h2⟩, ⟨h3, h4⟩, ⟨h5, h6, h7, h8, h9⟩, h11, h12⟩ := id h
  refine ⟨cB_f h hz (mkI_I h1 (fun a ha => (hI a (fun hx => ?_)).1)), hz⟩
  have ha2 : a ≠ sr := fun e => h7 (e ▸ ha)
  have h3 : ¬ (a < 171 ∧ (a < 19 ∨ 29 < a)) := fun e => h2 a e.1 e.2 ha
  unfold zX at hx
  omega
theorem cZs_op {v : Nat} {V : yV} {A : kA} (hv : v < 4) (hs : cZs L g I J 40 (some V)) (hI : mkI L g I PC PQ) (hf : fX L g g1 I I1 J J1 (40 + 2 + v)) (hA : cR L g1 I1 J1 (40 + 2 + v) A) : (∀ w, w < 4 → cR L g1 I1 J1 (40 + 2 + w) (jup V v A w)) ∧ I1 40 1 = nI 1 := by
  have hC := mkI_C hI
  obtain ⟨V', h1, h2⟩ := hs
  rcases h2 with ⟨e, _⟩ | ⟨e, h2⟩
  · cases e
  · cases e
    refine ⟨fun w hw => ?_, ?_⟩
    · by_cases e : w = v
      · rw [e, jup_s]; exact hA
      · rw [jup_n e]
        exact fX_R hf hI (h1 w hw) (by omega) (by omega)
    · have kk : gK L g 40 = 10 := rfl
      rw [((hf.1 40 (by omega) (mkO_K hI (by omega) (by omega) (by omega) (by omega))).1 (by omega)).1]
      exact h2
/-- a state behind an operation elsewhere -/
theorem cZs_ne {s out : Nat} {o : Option yV} (hst : stA s) (hs : cZs L g I J s o) (hI : mkI L g I PC PQ) (hf : fX L g g1 I I1 J J1 out) (ho : out < s ∨ s + 5 < out) : cZs L g1 I1 J1 s o := by
  have hC := mkI_C hI
  have hl := stA_lt hst
  obtain ⟨V, h1, h2⟩ := hs
  refine ⟨V, fun v hv => fX_R hf hI (h1 v hv) (by omega) (by omega), ?_⟩
  have kk := (stA_f L g hst).1
  rw [((hf.1 s (by omega) (mkO_K hI (by omega) (by omega) (by omega) (by omega))).1 (by omega)).1]
  exact h2
/-- a node -/
def nQ (L : Nat) (q : Nat → Nat → Nat) (g : jG) (I : Nat → Nat → Int32) (n a : Nat) : Prop := gK L g n = 4 ∧ 171 ≤ n ∧ n ≤ g.2.2.2.1 ∧ nS q I n a
theorem nQ_f {n a : Nat} (h : nQ L q g I n a) (hB : cB L q P D W su sr F PC PQ g I J) (hf : fZ L k sr g g1 I I1 J J1) : nQ L q g1 I1 n a := by
  obtain ⟨h1, h2, h3, h4⟩ := h
  have hs : n ≠ sr := fun e => by rw [e, hB.2.2.1.2.1] at h1; omega
  have e := ((hf.1 n h3 (mkO_K hB.1.1 (by omega) (by omega) (by omega) (by omega))).1 (by unfold zX; omega)).1
  refine ⟨(hf.2.1 n h3).1.trans h1, h2, Nat.le_trans h3 hf.2.2.2, ?_⟩
  unfold nS
  rw [e]
  exact h4
theorem cZs_v {V : yV} {s : Nat} (hs : cZs L g I J s (some V)) : (∀ v, v < 4 → cR L g I J (s + 2 + v) (V v)) ∧ I s 1 = nI 1 := by
  obtain ⟨V', h1, h2⟩ := hs
  rcases h2 with ⟨e, _⟩ | ⟨e, h2⟩
  · cases e
  · cases e; exact ⟨h1, h2⟩
end CB
section CC
variable (d L : Nat) (g : jG) {q : Nat → Nat → Nat} {P : Nat → kA} {D W su sr F PC PQ : Nat} {I : Nat → Nat → Int32} {J : Nat → Nat → Int64}
theorem c_patternAt {i : Nat} (h : cSu L q P D W su sr F g I J) (hi : i < 4) : ∃ x, cR L g I J x (P i) ∧ x ≤ g.2.2.2.1 ∧ okS x ∧ jcall (d + 1) 108 [.ref su, .int (nI i)] (jGs L g, I, J) = some (some (.ref x), (jGs L g, I, J)) := by
  obtain ⟨h1, h2, h3, h4, h5, ⟨pr, p1, p2, p3, p4, p5, p6⟩, -⟩ := h
  obtain ⟨x, x1, x2, x3, x4⟩ := p6 i hi
  refine ⟨x, x4, x3, x2, ?_⟩
  have k9 : (jGs L g).1 su = 9 := h3
  have r0 : (jGs L g).2.2.1 su 0 = some pr := p1
  have k17 : (jGs L g).1 pr = 17 := p4
  have l4 : (jGs L g).2.1 pr = 4 := p5
  have rx : (jGs L g).2.2.1 pr i = some x := x1
  rw [c_Setup_patternAt, e_Setup_patternAt_0, if_pos k9, r0, jo_some, jif_f (nI_pos (by omega)), if_pos k9, jo_some, if_pos (by rw [k17]; omega), l4, jif_f (show ¬ Int32.ofNat 4 ≤ nI i from nI_ge (b := 4) (by omega) (by omega)), e_Setup_patternAt_22a, if_pos (by rw [k17]; omega), l4, jin_nI (by omega) (by omega), cond_true, nI_c (by omega), rx, jo_some]
theorem c_narrow {n a m : Nat} {V : yV} (hm : m = 1 ∨ m = 2) (hB : cB L q P D W su sr F PC PQ g I J) (hs : cZs L g I J 40 (some V)) (kn : gK L g n = 4) (hn : nS q I n a) (hb : bS q a) (h4 : 4 ≤ q 138 a) (h7 : q 138 a ≤ 7) : ∃ g' I' J', cB L q P D W su sr F PC PQ g' I' J' ∧ fZ L 5 sr g g' I I' J J' ∧ eH sr I I' ∧ cZs L g' I' J' 40 (yTs m q P a V) ∧ jcall (d + 5) 15 [.ref 39, .ref n, .int (nI (2 - m))] (jGs L g, I, J) = some (none, (jGs L g', I', J')) := by
  have k4 : (jGs L g).1 n = 4 := kn
  rw [c_Analysis_narrow, e_Analysis_narrow_0, if_pos k4, hn.1]
  unfold yTs
  by_cases hk : q 138 a = 4 ∨ q 138 a = 6
  · obtain ⟨v4, i4⟩ := hb.2.2.2 hk
    obtain ⟨n1, n2⟩ := hn.2.2.2.2 hk
    rw [if_pos hk]
    have e19 : jif (nI (sgO (q 138 a)) = (63 : Int32)) (jval (d + 4) 15 19 [.ref 39, .ref n, .int (nI (2 - m)), jjunk] [] (jGs L g, I, J)) (if (jGs L g).1 n = 4 then (jif (nI (sgO (q 138 a)) = (35 : Int32)) (jval (d + 4) 15 19 [.ref 39, .ref n, .int (nI (2 - m)), jjunk] [] (jGs L g, I, J)) (some (none, (jGs L g, I, J)))) else none) = jval (d + 4) 15 19 [.ref 39, .ref n, .int (nI (2 - m)), jjunk] [] (jGs L g, I, J) := by
      rcases hk with e | e
      · rw [e, jif_t (by decide)]
      · rw [e, jif_f (by decide), if_pos k4, jif_t (by decide)]
    rw [e19]
    have hI := hB.1.1
    have hC := mkI_C hI
    obtain ⟨lv, l1⟩ := cZs_v hs
    obtain ⟨x, x1, x2, x3, x4⟩ := c_patternAt (d + 3) L g (I := I) (J := J) hB.2.2.2.1 i4
    have k9 : (jGs L g).1 su = 9 := hB.2.2.2.1.2.2.1
    have kv : gK L g (40 + 2 + q 139 a) = 2 := (lv _ v4).1
    have start : jval (d + 4) 15 19 [.ref 39, .ref n, .int (nI (2 - m)), jjunk] [] (jGs L g, I, J) = jif (nI (2 - m) = 0) (jval (d + 4) 15 74 [.ref 39, jjunk, jjunk, .ref (40 + 2 + q 139 a)] [.ref x, .ref (40 + 2 + q 139 a), .ref 19] (jGs L g, I, J)) (jval (d + 4) 15 51 [.ref 39, jjunk, jjunk, .ref (40 + 2 + q 139 a)] [.ref x, .ref (40 + 2 + q 139 a), .ref 19] (jGs L g, I, J)) := by
      rw [e_Analysis_narrow_19, if_pos k4, n1, c_at (d + 3) L g (Or.inl rfl) v4, jcR_some, e_Analysis_narrow_30a, hB.2.1.1, jo_some, jo_some, if_pos k4, if_pos k9, n2, x4, jcR_some, jcR_some, if_pos k4, if_pos k9]
    rw [start]
    -- behind the operation
    have fin : ∀ g1 I1 J1, mkI L g1 I1 PC PQ → fX L g g1 I I1 J J1 (40 + 2 + q 139 a) → cR L g1 I1 J1 (40 + 2 + q 139 a) (vPair m (V (q 139 a)) (P (q 140 a))) → ∃ g' I' J', cB L q P D W su sr F PC PQ g' I' J' ∧ fZ L 5 sr g g' I I' J J' ∧ eH sr I I' ∧ cZs L g' I' J' 40 (yAsk m P V (q 139 a) (q 140 a)) ∧ jval (d + 4) 15 78 [.ref 39, jjunk, jjunk, .ref (40 + 2 + q 139 a)] [] (jGs L g1, I1, J1) = some (none, (jGs L g', I', J')) := by
      intro g1 I1 J1 b1 b2 b3
      obtain ⟨B1, Z1, E1⟩ := cB_op (k := 5) hB b2 b1 (Or.inl ⟨by omega, by omega⟩)
      obtain ⟨S1, S2⟩ := cZs_op v4 hs hI b2 b3
      have k2 : (jGs L g1).1 (40 + 2 + q 139 a) = 2 := b3.1
      have go : ∀ y, ∃ g' I' J', cB L q P D W su sr F PC PQ g' I' J' ∧ fZ L 5 sr g g' I I' J J' ∧ eH sr I I' ∧ (∀ w, w < 4 → cR L g' I' J' (40 + 2 + w) (jup V (q 139 a) (vPair m (V (q 139 a)) (P (q 140 a))) w)) ∧ I' 40 1 = y ∧ some ((none : Option Value), (jGs L g1, ju I1 40 1 y, J1)) = some (none, (jGs L g', I', J')) := by
        intro y
        obtain ⟨B2, Z2⟩ := cB_o (k := 5) (I1 := ju I1 40 1 y) (J1 := J1) B1 (fun a ha => ⟨ju_n (fun e => ha (by unfold zX; omega)), rfl⟩)
        have h8 := hB.2.2.1.2.2.2.1
        exact ⟨g1, ju I1 40 1 y, J1, B2, fZ_t Z1 Z2, eH_t E1 ⟨ju_n (by omega), ju_n (by omega), ju_n (by omega)⟩, fun w hw => cR_cg L g1 (S1 w hw) rfl (ju_n (by omega)) rfl, zu_at _ _ _ _, rfl⟩
      unfold yAsk
      rw [e_Analysis_narrow_78a, if_pos k2, c_isNothing (d + 3) L g1 b3, jcI_some, e_Analysis_narrow_86]
      by_cases hno : vPair m (V (q 139 a)) (P (q 140 a)) = kNo
      · rw [jif_t hno, jb_t.mpr hno, jif_f (by decide), e_Analysis_narrow_94, jif_t (Or.inl rfl)]
        obtain ⟨g', I', J', z1, z2, z3, z4, z5, z6⟩ := go 0
        exact ⟨g', I', J', z1, z2, z3, ⟨_, z4, Or.inl ⟨rfl, z5⟩⟩, z6⟩
      · rw [jif_f hno, jb_f.mpr hno, jif_t (by decide), e_Analysis_narrow_94, jif_t (Or.inr rfl)]
        obtain ⟨g', I', J', z1, z2, z3, z4, z5, z6⟩ := go 1
        exact ⟨g', I', J', z1, z2, z3, ⟨_, z4, Or.inr ⟨rfl, z5⟩⟩, z6⟩
    rcases hm with e | e
    · subst e
      obtain ⟨g1, I1, J1, b1, b2, b3, b4⟩ := c_both (d + 1) L g (out := 40 + 2 + q 139 a) hI (lv _ v4) x1 (by omega) kv (by omega)
      rw [jif_f (by decide), e_Analysis_narrow_51c, b4, jcV_some, e_Analysis_narrow_55a]
      exact fin g1 I1 J1 b1 b2 b3
    · subst e
      obtain ⟨g1, I1, J1, b1, b2, b3, b4⟩ := c_less (d + 1) L g (out := 40 + 2 + q 139 a) hI (lv _ v4) x1 (by omega) kv (by omega)
      rw [jif_t (by decide), e_Analysis_narrow_74c, b4, jcV_some]
      exact fin g1 I1 J1 b1 b2 b3
  · rw [if_neg hk]
    have h57 : q 138 a = 5 ∨ q 138 a = 7 := by omega
    refine ⟨g, I, J, hB, fZ_r, eH_r, hs, ?_⟩
    rcases h57 with e | e
    · rw [e, jif_f (by decide), if_pos k4, jif_f (by decide)]
    · rw [e, jif_f (by decide), if_pos k4, jif_f (by decide)]
end CC

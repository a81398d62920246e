/-! TOP: the maker's frame; a setup with another pattern -/
set_option maxRecDepth 100000
def fMk (L : Nat) (g g' : jG) (I I' : Nat → Nat → Int32) (J J' : Nat → Nat → Int64) : Prop := (∀ a, a ≤ g.2.2.2.1 → ¬ mkO g a → (¬ (14 ≤ a ∧ a ≤ 18) → ¬ (30 ≤ a ∧ a ≤ 38) → I' a = I a ∧ J' a = J a) ∧ ¬ mkO g' a) ∧ (∀ a, a ≤ g.2.2.2.1 → gK L g' a = gK L g a ∧ gN L g' a = gN L g a) ∧ (∀ a k, a ≤ g.2.2.2.1 → a ≠ 19 → g'.2.2.1 a k = g.2.2.1 a k) ∧ g.2.2.2.1 ≤ g'.2.2.2.1
theorem cI_M {L : Nat} {T : zT} {su sr : Nat} {sa : Nat → Nat} {PC PQ PC' PQ' : Nat} {g g' : jG} {I I' : Nat → Nat → Int32} {J J' : Nat → Nat → Int64} (h : cI L T su sr sa PC PQ g I J) (hf : fMk L g g' I I' J J') (hm : mkI L g' I' PC' PQ') : cI L T su sr sa PC' PQ' g' I' J' := by
  obtain ⟨⟨t1, t2⟩, ⟨t3, t4, t5⟩, ⟨⟨m1, m2⟩, m3, m4, m5, m6, m7, m8⟩, ⟨h6, h7⟩, ⟨h8, h9⟩, h10, h11⟩ := h
  obtain ⟨f1, f2, f3, f4⟩ := hf
  have h168 := mkI_C m1
  have st : ∀ a, a < 171 → (a < 14 ∨ 38 < a) → I' a = I a ∧ J' a = J a := fun a ha hx => (f1 a (by omega) (m2 a ha (by omega))).1 (by omega) (by omega)
  have S : ∀ z s, cSz L z s sr g I J → cSz L z s sr g' I' J' := fun z s hs => by
    refine ⟨cSu_s hs.1 f4 (fun a ha hC hk => ?_), fun hx => ?_, fun a ha => ?_⟩
    · have hn : ¬ mkO g a ∧ (a ≠ sr ∨ True) := by
        refine ⟨?_, Or.inr trivial⟩
        rcases hk with e | e | e | e | e | e
        · exact mkO_K m1 (by omega) (by omega) (by omega) (by omega)
        · exact mkO_K m1 (by omega) (by omega) (by omega) (by omega)
        · exact mkO_K m1 (by omega) (by omega) (by omega) (by omega)
        · exact mkO_K m1 (by omega) (by omega) (by omega) (by omega)
        · exact mkO_K m1 (by omega) (by omega) (by omega) (by omega)
        · exact e.1
      have hh := f1 a hC hn.1
      have hi := hh.1 (by unfold okS at ha; omega) (by unfold okS at ha; omega)
      exact ⟨hi.1, hi.2, (f2 a hC).1, (f2 a hC).2, fun j => f3 a j hC (by unfold okS at ha; omega), fun hx => ⟨hh.2, hx.2⟩⟩
    · rw [f3 39 2 (by omega) (by omega)] at hx
      obtain ⟨h1, h2, h3⟩ := hs.2.1 hx
      have hsr := (f1 sr m4 m6).1 (by omega) (by omega)
      refine ⟨?_, cG_e h2 ⟨(st 39 (by omega) (by omega)).1, (st 49 (by omega) (by omega)).1, hsr.1⟩, by rw [(f2 sr m4).2]; exact h3⟩
      obtain ⟨V, y1, y2⟩ := h1
      exact ⟨V, fun v hv => cR_cg L g (y1 v hv) (f2 _ (by omega)).1 (st _ (by omega) (by omega)).1 (st _ (by omega) (by omega)).2, by rw [(st 40 (by omega) (by omega)).1]; exact y2⟩
    · rw [f3 39 2 (by omega) (by omega)] at ha
      exact Nat.le_trans (hs.2.2 a ha) f4
  exact ⟨⟨by rw [(st 1 (by omega) (by omega)).1]; exact t1, fun i hi => by rw [(st 2 (by omega) (by omega)).1]; exact t2 i hi⟩, ⟨by rw [(st 1 (by omega) (by omega)).1]; exact t3, by rw [(st 1 (by omega) (by omega)).1]; exact t4, by rw [(st 1 (by omega) (by omega)).1]; exact t5⟩, ⟨⟨hm, fun a ha hb => (f1 a (by omega) (m2 a ha hb)).2⟩, by rw [f3 39 10 (by omega) (by omega)]; exact m3, by omega, by rw [(f2 sr m4).1]; exact m5, (f1 sr m4 m6).2, m7, by rw [(f2 sr m4).2]; exact m8⟩, ⟨by rw [f3 1 2 (by omega) (by omega)]; exact h6, S _ _ h7⟩, ⟨by rw [(st 1 (by omega) (by omega)).1]; exact h8, fun i hi => ⟨by rw [f3 12 i (by omega) (by omega)]; exact (h9 i hi).1, S _ _ (h9 i hi).2.1, (h9 i hi).2.2⟩⟩, uT_cg h10 (fun j => by rw [(st 116 (by omega) (by omega)).1]) (fun j => by rw [(st 115 (by omega) (by omega)).1]), by rw [(st 111 (by omega) (by omega)).1]; exact h11⟩
theorem c_patR (d L : Nat) (g : jG) {I : Nat → Nat → Int32} {J : Nat → Nat → Int64} {su pr i x : Nat} (k9 : gK L g su = 9) (r0 : gR L g su 0 = some pr) (k17 : gK L g pr = 17) (n4 : gN L g pr = 4) (ri : gR L g pr i = some x) (hi : i < 4) : jcall (d + 1) 108 [.ref su, .int (nI i)] (jGs L g, I, J) = some (some (.ref x), (jGs L g, I, J)) := by
  have n4' : (jGs L g).2.1 pr = 4 := n4
  have k17' : (jGs L g).1 pr = 17 := k17
  rw [c_Setup_patternAt, e_Setup_patternAt_0, if_pos (show (jGs L g).1 su = 9 from k9), show (jGs L g).2.2.1 su 0 = some pr from r0, jo_some, jif_f (nI_pos (by omega)), if_pos (show (jGs L g).1 su = 9 from k9), jo_some, if_pos (show 14 ≤ (jGs L g).1 pr by rw [k17']; omega), n4', jif_f (show ¬ Int32.ofNat 4 ≤ nI i from nI_ge (b := 4) (by omega) (by omega)), e_Setup_patternAt_22a, if_pos (show 17 ≤ (jGs L g).1 pr ∧ (jGs L g).1 pr ≤ 19 by rw [k17']; omega), n4', jin_nI (by omega) (by omega), cond_true, nI_c (by omega), show (jGs L g).2.2.1 pr i = some x from ri, jo_some]
theorem c_pl (d L : Nat) {I : Nat → Nat → Int32} {J : Nat → Nat → Int64} {su pr v x r : Nat} {o y : Nat → Nat} (hr : 171 ≤ r) (hs : su ≠ r) (hp : pr ≠ r) (hv : v < 4) (hy : ∀ i, i < 4 → y i = if i = v then x else o i) : ∀ f j (g : jG), j + f = 4 → gK L g su = 9 → gR L g su 0 = some pr → gK L g pr = 17 → gN L g pr = 4 → (∀ i, i < 4 → gR L g pr i = some (o i)) → gK L g r = 17 → gN L g r = 4 → (∀ i, i < 4 → gK L g (y i) = 2) → ∃ g', g'.1 = g.1 ∧ g'.2.1 = g.2.1 ∧ g'.2.2.2 = g.2.2.2 ∧ (∀ a k, a ≠ r → g'.2.2.1 a k = g.2.2.1 a k) ∧ (∀ k, k < j → g'.2.2.1 r k = g.2.2.1 r k) ∧ (∀ k, j ≤ k → k < 4 → g'.2.2.1 r k = some (y k)) ∧ jval (d + 1) 104 8 [.ref su, .int (nI v), .ref x, .ref r, .int (nI j)] [] (jGs L g, I, J) = jval (d + 1) 104 8 [.ref su, .int (nI v), .ref x, .ref r, .int (nI 4)] [] (jGs L g', I, J) := by
  intro f
  induction f with
  | zero =>
    intro j g hj k1 k2 k3 k4 k5 k6 k7 k8
    have e : j = 4 := by omega
    subst e
    exact ⟨g, rfl, rfl, rfl, fun _ _ _ => rfl, fun _ _ => rfl, fun k _ _ => by omega, rfl⟩
  | succ f ih =>
    intro j g hj k1 k2 k3 k4 k5 k6 k7 k8
    have R : ∀ a k, a ≠ r → gR L (jgsR g r j (some (y j))) a k = gR L g a k := fun a k ha => gR_cg (by
      show ju g.2.2.1 r j (some (y j)) a k = _
      rw [ju_ne (by omega)])
    obtain ⟨g', q1, q2, q3, q4, q5, q6, q7⟩ := ih (j + 1) (jgsR g r j (some (y j))) (by omega) k1 ((R _ _ hs).trans k2) k3 k4 (fun i hi => (R _ _ hp).trans (k5 i hi)) k6 k7 k8
    have w : ∀ a k, (jgsR g r j (some (y j))).2.2.1 a k = if a = r ∧ k = j then some (y j) else g.2.2.1 a k := fun a k => by
      show ju g.2.2.1 r j (some (y j)) a k = _
      by_cases e : a = r ∧ k = j
      · rw [if_pos e, e.1, e.2, zu_at]
      · rw [if_neg e, ju_ne (by omega)]
    refine ⟨g', q1, q2, q3, fun a k ha => by rw [q4 a k ha, w, if_neg (by omega)], fun k hk => by rw [q5 k (by omega), w, if_neg (by omega)], fun k y1 y2 => ?_, ?_⟩
    · by_cases e : k = j
      · rw [e, q5 j (by omega), w, if_pos ⟨rfl, rfl⟩]
      · exact q6 k (by omega) y2
    · have k6' : (jGs L g).1 r = 17 := k6
      have k7' : (jGs L g).2.1 r = 4 := k7
      have e33 : jval (d + 1) 104 33 [.ref su, .int (nI v), .ref x, .ref r, .int (nI j)] [.ref (y j), .int (nI j), .ref r] (jGs L g, I, J) = jval (d + 1) 104 8 [.ref su, .int (nI v), .ref x, .ref r, .int (nI 4)] [] (jGs L g', I, J) := by
        rw [e_Setup_withPattern_33, if_pos (show 17 ≤ (jGs L g).1 r ∧ (jGs L g).1 r ≤ 19 by rw [k6']; omega), if_pos (show (jGs L g).1 (y j) = jel ((jGs L g).1 r) by rw [k6']; exact k8 j (by omega)), k7', jin_nI (by omega) (by omega), cond_true, nI_c (by omega), jGs_R (jr0_dyn hr j), e_Setup_withPattern_34, nI_1]
        exact q7
      rw [e_Setup_withPattern_8, jif_f (show ¬ (4 : Int32) ≤ nI j from nI_ge (b := 4) (by omega) (by omega))]
      by_cases e : j = v
      · rw [jif_t (by rw [e])]
        have ey : y j = x := by rw [hy j (by omega), if_pos e]
        rw [ey] at e33
        exact e33
      · have ey : y j = o j := by rw [hy j (by omega), if_neg e]
        rw [jif_f (fun h => e ((nI_eq (by omega) (by omega)).mp h)), if_pos (show (jGs L g).1 su = 9 from k1), c_patR d L g k1 k2 k3 k4 (k5 j (by omega)) (by omega), jcR_some, ← ey]
        exact e33
theorem c_withP (d L : Nat) (g : jG) {T : zT} {su sr v x : Nat} {A : kA} {sa : Nat → Nat} {PC PQ : Nat} {I : Nat → Nat → Int32} {J : Nat → Nat → Int64} (h : cI L T su sr sa PC PQ g I J) (hv : v < 4) (hx : cR L g I J x A) (hx2 : okS x) (hx3 : x ≤ g.2.2.2.1) (h1 : PC + 2 ≤ 600000) (h2 : PQ + 8 ≤ 7302250) : ∃ g' I' J' su', cI L T su sr sa (PC + 2) (PQ + 8) g' I' J' ∧ cSz L ((fun i => if i = v then A else T.2.2.2.1.1 i), T.2.2.2.1.2.1, T.2.2.2.1.2.2.1, T.2.2.2.1.2.2.2.1, T.2.2.2.1.2.2.2.2) su' sr g' I' J' ∧ su < su' ∧ (∀ a, a ≤ g.2.2.2.1 → I' a = I a ∧ J' a = J a ∧ gK L g' a = gK L g a) ∧ jcall (d + 2) 104 [.ref su, .int (nI v), .ref x] (jGs L g, I, J) = some (some (.ref su'), (jGs L g', I', J')) := by
  have hC := mkI_C h.2.2.1.1.1
  have hP := mkI_P h.2.2.1.1.1
  obtain ⟨c1, c2, c3, c4, c5, -⟩ := id h.2.2.2.1.2.1
  obtain ⟨⟨pr, p1, p2⟩, p, q1, q2⟩ := cSu_pq h.2.2.2.1.2.1
  obtain ⟨s1, s2, s3, s4, s5⟩ := p2
  generalize hr : g.2.2.2.1 + 1 = r at *
  have ho : ∃ o : Nat → Nat, ∀ i, i < 4 → gR L g pr i = some (o i) ∧ okS (o i) ∧ o i ≤ g.2.2.2.1 ∧ cR L g I J (o i) (T.2.2.2.1.1 i) := by
    refine ⟨fun i => (gR L g pr i).getD 0, fun i hi => ?_⟩
    obtain ⟨x, x1, x2, x3, x4⟩ := s5 i hi
    show gR L g pr i = some ((gR L g pr i).getD 0) ∧ okS ((gR L g pr i).getD 0) ∧ (gR L g pr i).getD 0 ≤ g.2.2.2.1 ∧ cR L g I J ((gR L g pr i).getD 0) (T.2.2.2.1.1 i)
    rw [x1]; exact ⟨rfl, x2, x3, x4⟩
  obtain ⟨o, ho⟩ := ho
  have O1 : ∀ a, a ≤ g.2.2.2.1 → gK L (jga g 17 4 4) a = gK L g a ∧ gN L (jga g 17 4 4) a = gN L g a := fun a ha => ⟨gK_old (by omega), gN_old (by omega)⟩
  have R1 : ∀ a k, a ≤ g.2.2.2.1 → (jga g 17 4 4).2.2.1 a k = g.2.2.1 a k := fun a k ha => jga_R (by omega)
  have hy : ∀ i, i < 4 → (fun i => if i = v then x else o i) i = if i = v then x else o i := fun _ _ => rfl
  generalize hyy : (fun i => if i = v then x else o i) = y at hy
  have y2 : ∀ i, i < 4 → okS (y i) ∧ y i ≤ g.2.2.2.1 ∧ cR L g I J (y i) (if i = v then A else T.2.2.2.1.1 i) := fun i hi => by
    rw [hy i hi]
    by_cases e : i = v
    · rw [if_pos e, if_pos e]; exact ⟨hx2, hx3, hx⟩
    · rw [if_neg e, if_neg e]; exact (ho i hi).2
  obtain ⟨g1, k1, k2, k3, k4, k5, k6, k7⟩ := c_pl d L (I := jup I r (fun _ => 0)) (J := jup J r (fun _ => 0)) (su := su) (pr := pr) (v := v) (x := x) (r := r) (o := o) (y := y) (by omega) (by omega) (by omega) hv hy 4 0 (jga g 17 4 4) (by omega) ((O1 su (by omega)).1.trans c3) ((gR_cg (R1 su 0 (by omega))).trans p1) ((O1 pr s2).1.trans s3) ((O1 pr s2).2.trans s4) (fun i hi => (gR_cg (R1 pr i s2)).trans (ho i hi).1) (by rw [← hr]; exact gK_new hC) (by rw [← hr]; exact gN_new hC) (fun i hi => (O1 _ (y2 i hi).2.1).1.trans (y2 i hi).2.2.1)
  have kk : ∀ a, gK L g1 a = gK L (jga g 17 4 4) a ∧ gN L g1 a = gN L (jga g 17 4 4) a := fun a => by
    constructor
    · show (jGs L g1).1 a = (jGs L (jga g 17 4 4)).1 a
      unfold jGs; rw [k1]
    · show (jGs L g1).2.1 a = (jGs L (jga g 17 4 4)).2.1 a
      unfold jGs; rw [k2]
  have O2 : ∀ a, a ≤ g.2.2.2.1 → gK L g1 a = gK L g a ∧ gN L g1 a = gN L g a := fun a ha => ⟨(kk a).1.trans (O1 a ha).1, (kk a).2.trans (O1 a ha).2⟩
  have R2 : ∀ a k, a ≤ g.2.2.2.1 → g1.2.2.1 a k = g.2.2.1 a k := fun a k ha => (k4 a k (by omega)).trans (R1 a k ha)
  have C2 : g1.2.2.2.1 = g.2.2.2.1 + 1 := by rw [k3]; rfl
  have Q2 : g1.2.2.2.2 = g.2.2.2.2 + 4 := by rw [k3]; rfl
  have S2 : ∀ a, a ≤ g.2.2.2.1 → jup I r (fun _ => 0) a = I a ∧ jup J r (fun _ => 0) a = J a := fun a ha => ⟨jup_n (by omega), jup_n (by omega)⟩
  have cI1 := cI_A h O2 R2 C2 Q2 (by omega) (by omega) (fun a ha _ _ => S2 a ha)
  have sp : sP L (fun i => if i = v then A else T.2.2.2.1.1 i) r g1 (jup I r (fun _ => 0)) (jup J r (fun _ => 0)) := by
    refine ⟨Or.inr (by omega), by omega, (kk r).1.trans (by rw [← hr]; exact gK_new hC), (kk r).2.trans (by rw [← hr]; exact gN_new hC), fun i hi => ⟨y i, ?_, (y2 i hi).1, by have := (y2 i hi).2.1; omega, ?_⟩⟩
    · rw [gR_dyn (jr0_dyn (by omega) i)]; exact k6 i (by omega) hi
    · exact cR_cg L g (y2 i hi).2.2 (O2 _ (y2 i hi).2.1).1 (S2 _ (y2 i hi).2.1).1 (S2 _ (y2 i hi).2.1).2
  have gq := gQ_A q2 hC O2 (fun a k ha _ => R2 a k ha) (by omega) (fun a ha _ => (S2 a ha).1)
  obtain ⟨g', I', J', a1, a2, a3, a4, a5, a6⟩ := c_mkS d L g1 (z' := ((fun i => if i = v then A else T.2.2.2.1.1 i), T.2.2.2.1.2.1, T.2.2.2.1.2.2.1, T.2.2.2.1.2.2.2.1, T.2.2.2.1.2.2.2.2)) cI1 sp gq (by omega) (by omega)
  refine ⟨g', I', J', g1.2.2.2.1 + 1, a1, a2, a3, fun a ha => ⟨(a4 a (by omega)).1.trans (S2 a ha).1, (a4 a (by omega)).2.1.trans (S2 a ha).2, (a4 a (by omega)).2.2.trans (O2 a ha).1⟩, ?_⟩
  have ks : (jGs L (jga g1 9 0 4)).1 su = 9 := (gK_old (kd := 9) (ln := 0) (n := 4) (by omega)).trans ((O2 su (by omega)).1.trans c3)
  have jr1 : jrm (jGs L g, I, J) 4 = true := jrm_t (by omega) (by omega)
  rw [c_Setup_withPattern, e_Setup_withPattern_0, show (4 : Int32).toNatClampNeg = 4 from rfl, jr1, show (jb ((0 : Int32) ≤ 4) && true) = true from by rw [jb_t.mpr (by decide)]; rfl, cond_true, jal_G hC, e_Setup_withPattern_4, hr, show Value.int (0 : Int32) = Value.int (nI 0) from rfl, k7, e_Setup_withPattern_8, jif_t (by decide), a5, cond_true, jal_G (by omega), e_Setup_withPattern_43, if_pos ks, show (jGs L (jga g1 9 0 4)).2.2.1 su 1 = some p from (gR_cg (jga_R (by omega))).trans ((gR_cg (R2 su 1 (by omega))).trans q1), jo_some, if_pos ks, if_pos ks, show jup (jup I r (fun _ => 0)) (g1.2.2.2.1 + 1) (fun _ => 0) su 2 = nI T.2.2.2.1.2.2.2.1 from by rw [jup_n (by omega), jup_n (by omega)]; exact c4, show jup (jup I r (fun _ => 0)) (g1.2.2.2.1 + 1) (fun _ => 0) su 3 = nI T.2.2.2.1.2.2.2.2 from by rw [jup_n (by omega), jup_n (by omega)]; exact c5, a6, jcV_some, e_Setup_withPattern_60]

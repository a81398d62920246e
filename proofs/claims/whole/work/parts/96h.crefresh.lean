/-! ANALYSIS, THE CLASS: refresh -/
set_option maxRecDepth 100000
theorem mkO_eq {g g' : jG} (h : ∀ k, g'.2.2.1 19 k = g.2.2.1 19 k) (a : Nat) : mkO g' a ↔ mkO g a := by
  unfold mkO
  rw [h, h, h, h, h]
theorem mkI_T {L : Nat} {g g' : jG} {I I' : Nat → Nat → Int32} {PC PQ dc dq : Nat} (h : mkI L g I PC PQ) (hI : ∀ a, mkO g a → I' a = I a) (hK : ∀ a, a ≤ g.2.2.2.1 → gK L g' a = gK L g a ∧ gN L g' a = gN L g a) (hR : ∀ k, g'.2.2.1 19 k = g.2.2.1 19 k) (hC : g'.2.2.2.1 = g.2.2.2.1 + dc) (hQ : g'.2.2.2.2 = g.2.2.2.2 + dq) (h1 : PC + dc ≤ 600000) (h2 : PQ + dq ≤ 7302250) : mkI L g' I' (PC + dc) (PQ + dq) := by
  obtain ⟨kr, rr, sr, gr, fr, c, base, N, z1, z2, z3, z4, z5, z6, z7, z8, z9, z10, z11, z12⟩ := mkI_I h hI
  obtain ⟨r1, r2, r3, r4, r5, k1, k2, k3, k4, k5, l1, l2, l3, l4, l5, n1, n2, n3, n4, b1, b2, b3, b4, b5⟩ := z1
  refine ⟨kr, rr, sr, gr, fr, c, base, N, ⟨?_, ?_, ?_, ?_, ?_, ?_, ?_, ?_, ?_, ?_, ?_, ?_, ?_, ?_, ?_, n1, n2, n3, n4, by omega, by omega, by omega, by omega, by omega⟩, z2, z3, z4, z5, z6, z7, by omega, ?_, ?_, h1, h2⟩
  · rw [hR]; exact r1
  · rw [hR]; exact r2
  · rw [hR]; exact r3
  · rw [hR]; exact r4
  · rw [hR]; exact r5
  · rw [(hK _ b1).1]; exact k1
  · rw [(hK _ b2).1]; exact k2
  · rw [(hK _ b3).1]; exact k3
  · rw [(hK _ b4).1]; exact k4
  · rw [(hK _ b5).1]; exact k5
  · rw [(hK _ b1).2]; exact l1
  · rw [(hK _ b2).2]; exact l2
  · rw [(hK _ b3).2]; exact l3
  · rw [(hK _ b4).2]; exact l4
  · rw [(hK _ b5).2]; exact l5
  · unfold pC at *
    rw [hC]
    omega
  · unfold pQ at *
    rw [hQ]
    omega
/-- the frame of a whole analysis -/
def fW (L sr sr' : Nat) (g g' : jG) (I I' : Nat → Nat → Int32) (J J' : Nat → Nat → Int64) : Prop := (∀ a, a ≤ g.2.2.2.1 → ¬ mkO g a → (¬ zX 0 sr a → I' a = I a ∧ J' a = J a) ∧ ¬ mkO g' a) ∧ (∀ a, a ≤ g.2.2.2.1 → gK L g' a = gK L g a ∧ gN L g' a = gN L g a) ∧ (∀ a k, a ≤ g.2.2.2.1 → a ≠ 19 → ¬ (a = 39 ∧ (k = 2 ∨ k = 10)) → g'.2.2.1 a k = g.2.2.1 a k) ∧ g.2.2.2.1 ≤ g'.2.2.2.1 ∧ (sr' = sr ∨ g.2.2.2.1 < sr')
theorem fW_Z {L sr sr' : Nat} {g g1 g2 : jG} {I I1 I2 : Nat → Nat → Int32} {J J1 J2 : Nat → Nat → Int64} (h : fW L sr sr' g g1 I I1 J J1) (h' : fZ L 0 sr' g1 g2 I1 I2 J1 J2) : fW L sr sr' g g2 I I2 J J2 := by
  obtain ⟨a1, a2, a3, a4, a5⟩ := h
  obtain ⟨b1, b2, b3, b4⟩ := h'
  refine ⟨fun a ha hn => ?_, fun a ha => ?_, fun a k ha hk hx => ?_, by omega, a5⟩
  · obtain ⟨c1, c2⟩ := a1 a ha hn
    obtain ⟨d1, d2⟩ := b1 a (by omega) c2
    refine ⟨fun hx => ?_, d2⟩
    have hx' : ¬ zX 0 sr' a := by unfold zX at *; omega
    exact ⟨(d1 hx').1.trans (c1 hx).1, (d1 hx').2.trans (c1 hx).2⟩
  · exact ⟨(b2 a (by omega)).1.trans (a2 a ha).1, (b2 a (by omega)).2.trans (a2 a ha).2⟩
  · exact (b3 a k (by omega) hk).trans (a3 a k ha hk hx)
theorem cSu_T {L : Nat} {q : Nat → Nat → Nat} {P : Nat → kA} {D W su sr sr' F PC PQ : Nat} {g g1 : jG} {I I1 : Nat → Nat → Int32} {J J1 : Nat → Nat → Int64} (h : cSu L q P D W su sr F g I J) (hI : mkI L g I PC PQ) (hf : fW L sr sr' g g1 I I1 J J1) (ks : gK L g sr = 14) : cSu L q P D W su sr' F g1 I1 J1 := by
  refine cSu_s h hf.2.2.2.1 (fun a ha hC hk => ?_)
  have hn : ¬ mkO g a ∧ a ≠ sr := by
    by_cases hx : ¬ mkO g a ∧ a ≠ sr
    · exact hx
    · have hk' : gK L g a = 2 ∨ gK L g a = 4 ∨ gK L g a = 6 ∨ gK L g a = 9 ∨ gK L g a = 17 := by
        rcases hk with e | e | e | e | e | e
        · omega
        · omega
        · omega
        · omega
        · omega
        · exact absurd e hx
      exact ⟨mkO_K hI (by omega) (by omega) (by omega) (by omega), fun e => by rw [e, ks] at hk'; omega⟩
  have hz : ¬ zX 0 sr a := by
    have := hn.2
    unfold okS at ha
    unfold zX
    omega
  have h1 := hf.1 a hC hn.1
  have h5 := hf.2.2.2.2
  exact ⟨(h1.1 hz).1, (h1.1 hz).2, (hf.2.1 a hC).1, (hf.2.1 a hC).2, fun j => hf.2.2.1 a j hC (by unfold okS at ha; omega) (by unfold okS at ha; omega), fun _ => ⟨h1.2, by omega⟩⟩
/-- the class' maker and the row of texts -/
def cA (L sr PC PQ : Nat) (g : jG) (I : Nat → Nat → Int32) : Prop := (mkI L g I PC PQ ∧ nM g) ∧ g.2.2.1 39 10 = some sr ∧ sr ≤ g.2.2.2.1 ∧ gK L g sr = 14 ∧ ¬ mkO g sr ∧ (sr = 50 ∨ 171 ≤ sr) ∧ gN L g sr ≤ 12000
section CC
variable (d L : Nat) (g : jG) {J : Nat → Nat → Int64}
theorem c_fv_5 {a n : Nat} (x : Int32) (hn : n < 2147483648) (k : (jGs L g).1 a = 15) (l : (jGs L g).2.1 a = n) : ∀ m i (I : Nat → Nat → Int32), i + m = n → (∀ y, y < i → I a y = x) → ∃ I', (∀ y, y ≠ a → I' y = I y) ∧ (∀ y, y < n → I' a y = x) ∧ jval d 278 5 [.ref a, .int x, .int (nI i), .int (nI n)] [] (jGs L g, I, J) = some (none, (jGs L g, I', J)) := by
  intro m
  induction m with
  | zero =>
    intro i I hm h
    refine ⟨I, fun _ _ => rfl, fun y hy => h y (by omega), ?_⟩
    rw [e_Arrays_fill_5, jif_t (nI_le (by omega) (by omega))]
  | succ m ih =>
    intro i I hm h
    obtain ⟨I', z1, z2, z3⟩ := ih (i + 1) (ju I a i x) (by omega) (fun y hy => by
      by_cases e : y = i
      · rw [e, zu_at]
      · rw [zu_k e]; exact h y (by omega))
    refine ⟨I', fun y hy => (z1 y hy).trans (ju_n hy), z2, ?_⟩
    rw [e_Arrays_fill_5, jif_f (nI_ge (by omega) (by omega)), if_pos k, l, jin_nI (by omega) (by omega), cond_true, nI_c (by omega), nI_1, z3]
theorem c_fv {a n : Nat} {I : Nat → Nat → Int32} (x : Int32) (hn : n < 2147483648) (k : (jGs L g).1 a = 15) (l : (jGs L g).2.1 a = n) : ∃ I', (∀ y, y ≠ a → I' y = I y) ∧ (∀ y, y < n → I' a y = x) ∧ jcall (d + 1) 278 [.ref a, .int x] (jGs L g, I, J) = some (none, (jGs L g, I', J)) := by
  obtain ⟨I', z1, z2, z3⟩ := c_fv_5 d L g (J := J) x hn k l n 0 I (by omega) (fun y hy => by omega)
  refine ⟨I', z1, z2, ?_⟩
  rw [c_Arrays_fill, e_Arrays_fill_0, if_pos (by rw [k]; omega), l]
  exact z3
theorem c_alarmCount {q : Nat → Nat → Nat} {I : Nat → Nat → Int32} {p F B : Nat} (h : pg L q g I p F B) : jcall (d + 1) 61 [.ref p] (jGs L g, I, J) = some (some (.int (nI (q 117 42))), (jGs L g, I, J)) := by
  obtain ⟨o1, o2, o3, o4, -, ⟨ar, a1, a2, a3, a4, a5, a6⟩, -⟩ := h
  have k6 : (jGs L g).1 p = 6 := o3
  have r3 : (jGs L g).2.2.1 p 3 = some ar := a1
  have k15 : (jGs L g).1 ar = 15 := a4
  have la : (jGs L g).2.1 ar = q 117 42 := a5
  rw [c_Program_alarmCount, e_Program_alarmCount_0, if_pos k6, r3, jo_some, if_pos (by rw [k15]; omega), la]
  rfl
end CC
section CC
variable (d L : Nat) {q : Nat → Nat → Nat} {P : Nat → kA} {D W su sr F PC PQ : Nat}
theorem c_rf_68 (g : jG) : ∀ m v (I : Nat → Nat → Int32) (J : Nat → Nat → Int64), v + m = 4 → cB L q P D W su sr F PC PQ g I J → (∀ w, w < v → cR L g I J (40 + 2 + w) kEp) → ∃ I' J', cB L q P D W su sr F PC PQ g I' J' ∧ fZ L 0 sr g g I I' J J' ∧ eH sr I I' ∧ (∀ w, w < 4 → cR L g I' J' (40 + 2 + w) kEp) ∧ jval (d + 20) 7 68 [.ref 39, .ref su, .int (nI v)] [] (jGs L g, I, J) = jval (d + 20) 7 68 [.ref 39, .ref su, .int (nI 4)] [] (jGs L g, I', J') := by
  intro m
  induction m with
  | zero =>
    intro v I J hm hB h
    have e : v = 4 := by omega
    subst e
    exact ⟨I, J, hB, fZ_r, eH_r, h, rfl⟩
  | succ m ih =>
    intro v I J hm hB h
    have h40 : stA 40 := Or.inl rfl
    have kv : gK L g (40 + 2 + v) = 2 := ((stA_f L g h40).2.2.2.2 v (by omega)).2
    obtain ⟨I1, J1, b1, b2, b3⟩ := c_makeEmptyText (d + 18) L g (I := I) (J := J) kv
    obtain ⟨B1, Z1, E1⟩ := cB_op (k := 0) hB (fX_one b1) (mkI_out L g hB.1.1 kv (fun x hx => (b1 x hx).1)) (Or.inl ⟨by omega, by omega⟩)
    obtain ⟨I', J', c1, c2, c3, c4, c5⟩ := ih (v + 1) I1 J1 (by omega) B1 (fun w hw => by
      by_cases e : w = v
      · rw [e]; exact b2
      · have z := b1 (40 + 2 + w) (by omega)
        exact cR_cg L g (h w (by omega)) rfl z.1 z.2)
    refine ⟨I', J', c1, fZ_t Z1 c2, eH_t E1 c3, c4, ?_⟩
    rw [e_Analysis_refresh_68, jif_f (show ¬ (4 : Int32) ≤ nI v from nI_ge (b := 4) (by omega) (by omega)), c_at (d + 19) L g h40 (show v < 4 by omega), jcR_some, e_Analysis_refresh_81a, if_pos (show (jGs L g).1 (40 + 2 + v) = 2 from kv), b3, jcV_some, e_Analysis_refresh_84, nI_1]
    exact c5
/-- the analysis itself -/
theorem c_rf_66 (g : jG) {I : Nat → Nat → Int32} {J : Nat → Nat → Int64} (hB : cB L q P D W su sr F PC PQ g I J) (hG : cG q (0, 0, fun _ => none) sr I) : ∃ g' I' J', cB L q P D W su sr F PC PQ g' I' J' ∧ fZ L 0 sr g g' I I' J J' ∧ cZs L g' I' J' 40 (yPrg q P D W F).1 ∧ cG q (yPrg q P D W F).2 sr I' ∧ jval (d + 20) 7 66 [.ref 39, .ref su, jjunk] [] (jGs L g, I, J) = some (none, (jGs L g', I', J')) := by
  obtain ⟨I1, J1, B1, Z1, E1, R1, v1⟩ := c_rf_68 d L g 4 0 I J (by omega) hB (fun w hw => by omega)
  have h8 := hB.2.2.1.2.2.2.1
  obtain ⟨B2, Z2⟩ := cB_o (k := 0) (I1 := ju I1 40 1 1) (J1 := J1) B1 (fun a ha => ⟨ju_n (fun e => ha (by unfold zX; omega)), rfl⟩)
  have S2 : cZs L g (ju I1 40 1 1) J1 40 (some (fun _ => kEp)) := ⟨_, fun w hw => cR_cg L g (R1 w hw) rfl (ju_n (by omega)) rfl, Or.inr ⟨rfl, zu_at _ _ _ _⟩⟩
  have G2 : cG q (0, 0, fun _ => none) sr (ju I1 40 1 1) := cG_e (cG_e hG E1) ⟨ju_n (by omega), ju_n (by omega), ju_n (by omega)⟩
  obtain ⟨p, hp, hpg, -⟩ := B2.2.2.2.1.2.2.2.2.2.2
  obtain ⟨o1, o2, o3, o4, o5, o6, o7⟩ := hpg
  obtain ⟨g', I', J', c1, c2, c3, c4, c5⟩ := c_ana d L F 5 0 170 _ 0 (q 117 35) _ _ g _ J1 (by omega) o7 (Nat.le_refl _) (Nat.le_refl _) B2 S2 G2
  refine ⟨g', I', J', c1, fZ_t Z1 (fZ_t Z2 c2), c3, c4, ?_⟩
  have k9 : (jGs L g).1 su = 9 := hB.2.2.2.1.2.2.1
  rw [e_Analysis_refresh_66, show (0 : Int32) = nI 0 from rfl, v1, e_Analysis_refresh_68, jif_t (show (4 : Int32) ≤ nI 4 from Int32.le_refl _), jif_t (Or.inr rfl), if_pos k9, show (jGs L g).2.2.1 su 1 = some p from hp, jo_some, if_pos (show (jGs L g).1 p = 6 from o3), jo_blk, show (0 : Int32) = nI 0 from rfl, e_ablk]
  rw [show d + 2 * 5 + 9 = d + 19 by omega] at c5
  rw [c5, jcV_some, e_Analysis_refresh_110]
theorem c_refresh (g : jG) {I : Nat → Nat → Int32} {J : Nat → Nat → Int64} (hA : cA L sr PC PQ g I) (hS : cSu L q P D W su sr F g I J) (hc : D ≤ 5 ∧ W < 2 ∧ pBd 120 q ∧ q 35 8 ≤ 120) (hne : g.2.2.1 39 2 ≠ some su) (h1 : PC + 1 ≤ 600000) (h2 : PQ + 3000 ≤ 7302250) : ∃ g' I' J' sr' PC' PQ', cB L q P D W su sr' F PC' PQ' g' I' J' ∧ PC' ≤ PC + 1 ∧ PQ' ≤ PQ + 3000 ∧ fW L sr sr' g g' I I' J J' ∧ cZs L g' I' J' 40 (yPrg q P D W F).1 ∧ cG q (yPrg q P D W F).2 sr' I' ∧ jcall (d + 21) 7 [.ref 39, .ref su] (jGs L g, I, J) = some (none, (jGs L g', I', J')) := by
  obtain ⟨⟨hI, hn⟩, a10, s1, s2, s3, s4, s5⟩ := hA
  have hC := mkI_C hI
  have b42 : 4 * q 117 42 ≤ 120 := hc.2.2.1.2.2.2
  have k9 : (jGs L g).1 su = 9 := hS.2.2.1
  have rj : ∀ v, jgsR (jGs L g) 39 2 v = jGs L (jgsR g 39 2 v) := fun v => jGs_R rfl
  -- the setup is noted, counters and lengths anew
  generalize hg1 : jgsR g 39 2 (some su) = g1
  have K1 : ∀ a, gK L g1 a = gK L g a ∧ gN L g1 a = gN L g a := fun a => by rw [← hg1]; exact ⟨rfl, rfl⟩
  have R1 : ∀ a k, ¬ (a = 39 ∧ k = 2) → g1.2.2.1 a k = g.2.2.1 a k := fun a k h => by rw [← hg1]; show ju g.2.2.1 39 2 (some su) a k = _; rw [ju_ne (by omega)]
  have r2 : g1.2.2.1 39 2 = some su := by rw [← hg1]; show ju g.2.2.1 39 2 (some su) 39 2 = _; rw [zu_at]
  have C1 : g1.2.2.2.1 = g.2.2.2.1 := by rw [← hg1]; rfl
  have Q1 : g1.2.2.2.2 = g.2.2.2.2 := by rw [← hg1]; rfl
  have O1 : ∀ a, mkO g1 a ↔ mkO g a := mkO_eq (fun k => R1 19 k (by omega))
  obtain ⟨I2, f1, f2, f3⟩ := c_fv (d + 19) L g1 (J := J) (a := 49) (n := 120) (I := ju (ju I 39 7 (0 : Int32)) 39 8 (0 : Int32)) (-1 : Int32) (by omega) rfl rfl
  have i2 : ∀ y, y ≠ 39 → y ≠ 49 → I2 y = I y := fun y y1 y2 => by rw [f1 y y2, ju_n y1, ju_n y1]
  have start : jcall (d + 21) 7 [.ref 39, .ref su] (jGs L g, I, J) = jval (d + 20) 7 32 [.ref 39, .ref su, jjunk] [] (jGs L g1, I2, J) := by
    rw [c_Analysis_refresh, e_Analysis_refresh_0, rj, hg1]
    have e14 : jval (d + 20) 7 14 [.ref 39, .ref su, jjunk] [] (jGs L g1, I, J) = jval (d + 20) 7 32 [.ref 39, .ref su, jjunk] [] (jGs L g1, I2, J) := by
      rw [e_Analysis_refresh_14, f3, jcV_some]
    cases h39 : g.2.2.1 39 2 with
    | none => rw [jo_none]; exact e14
    | some b =>
      rw [jo_some, if_neg (fun e => hne (by rw [h39, e]))]
      exact e14
  have T1 : fW L sr sr g g1 I I2 J J := ⟨fun a ha hno => ⟨fun hx => ⟨i2 a (by unfold zX at hx; omega) (by unfold zX at hx; omega), rfl⟩, fun h => hno ((O1 a).mp h)⟩, fun a _ => K1 a, fun a k _ _ hx => R1 a k (by omega), by omega, Or.inl rfl⟩
  have S1 := cSu_T hS hI T1 s2
  have I1 : mkI L g1 I2 PC PQ := mkI_T (dc := 0) (dq := 0) hI (fun a ha => i2 a (fun e => hn 39 (by omega) (by omega) (e ▸ ha)) (fun e => hn 49 (by omega) (by omega) (e ▸ ha))) (fun a _ => K1 a) (fun k => R1 19 k (by omega)) C1 Q1 (by omega) (by omega)
  have n1 : nM g1 := fun a ha hb h => hn a ha hb ((O1 a).mp h)
  have G1 : ∀ y, cG q (0, 0, fun _ => none) y I2 := by
    intro y
    refine ⟨by rw [f1 39 (by omega), zu_k (by omega), zu_at]; rfl, by rw [f1 39 (by omega), zu_at]; rfl, by show 0 ≤ 25; omega, fun j hj => Or.inl ⟨rfl, f2 j (by omega)⟩⟩
  obtain ⟨p, hp, hpg, -⟩ := id S1.2.2.2.2.2.2
  have k6 : (jGs L g1).1 p = 6 := hpg.2.2.1
  have k9' : (jGs L g1).1 su = 9 := S1.2.2.1
  have ks : (jGs L g1).1 sr = 14 := (K1 sr).1.trans s2
  have rp : (jGs L g1).2.2.1 su 1 = some p := hp
  have hN : (jGs L g1).2.1 sr ≤ 12000 := by rw [show (jGs L g1).2.1 sr = gN L g sr from (K1 sr).2]; exact s5
  have e44 : jval (d + 20) 7 32 [.ref 39, .ref su, jjunk] [] (jGs L g1, I2, J) = jval (d + 20) 7 44 [.ref 39, .ref su, jjunk] [.int (nI (q 117 42)), .int (Int32.ofNat ((jGs L g1).2.1 sr))] (jGs L g1, I2, J) := by
    rw [e_Analysis_refresh_32, R1 39 10 (by omega), a10, jo_some, if_pos (by rw [ks]; omega), if_pos k9', rp, jo_some, if_pos k6, c_alarmCount (d + 19) L g1 hpg, jcI_some]
  have e100 : nI (q 117 42) * (100 : Int32) = nI (q 117 42 * 100) := by rw [show (100 : Int32) = nI 100 from rfl, nI_mul]
  rw [start, e44, e_Analysis_refresh_44, e100]
  by_cases hle : q 117 42 * 100 ≤ (jGs L g1).2.1 sr
  · have B1 : cB L q P D W su sr F PC PQ g1 I2 J := ⟨⟨I1, n1⟩, ⟨r2, (R1 39 10 (by omega)).trans a10⟩, ⟨by omega, ks, fun h => s3 ((O1 sr).mp h), s4, by show 100 * q 117 42 ≤ (jGs L g1).2.1 sr; omega, hN⟩, S1, hc⟩
    obtain ⟨g', I', J', c1, c2, c3, c4, c5⟩ := c_rf_66 d L g1 B1 (G1 sr)
    refine ⟨g', I', J', sr, PC, PQ, c1, by omega, by omega, fW_Z T1 c2, c3, c4, ?_⟩
    rw [jif_t (show nI (q 117 42 * 100) ≤ Int32.ofNat ((jGs L g1).2.1 sr) from nI_le hle (by omega))]
    exact c5
  · -- a larger row
    obtain ⟨g2, x2, c2, q2, kn2, ln2, o2, r2', y2⟩ := jga_all L g1 14 (q 117 42 * 100) (q 117 42 * 100) (by omega)
    have rj2 : ∀ v, jgsR (jGs L g2) 39 10 v = jGs L (jgsR g2 39 10 v) := fun v => jGs_R rfl
    have hC2 : g1.2.2.2.1 + 1 ≤ 600000 ∧ g1.2.2.2.2 + q 117 42 * 100 ≤ 7302250 := by
      obtain ⟨kr, rr, sr, gr, fr, c, base, N, z1, z2, z3, z4, z5, z6, z7, z8, z9, z10, z11, z12⟩ := I1
      unfold pC at z9
      unfold pQ at z10
      omega
    generalize hg3 : jgsR g2 39 10 (some (g1.2.2.2.1 + 1)) = g3
    have K3 : ∀ a, a ≠ g1.2.2.2.1 + 1 → gK L g3 a = gK L g1 a ∧ gN L g3 a = gN L g1 a := fun a ha => by rw [← hg3]; exact o2 a ha
    have K3n : gK L g3 (g1.2.2.2.1 + 1) = 14 ∧ gN L g3 (g1.2.2.2.1 + 1) = q 117 42 * 100 := by rw [← hg3]; exact ⟨kn2, ln2⟩
    have R3 : ∀ a k, a ≠ g1.2.2.2.1 + 1 → ¬ (a = 39 ∧ k = 10) → g3.2.2.1 a k = g1.2.2.1 a k := fun a k ha h => by
      rw [← hg3]
      show ju g2.2.2.1 39 10 (some (g1.2.2.2.1 + 1)) a k = _
      rw [ju_ne (by omega)]
      exact r2' a k ha
    have r310 : g3.2.2.1 39 10 = some (g1.2.2.2.1 + 1) := by rw [← hg3]; show ju g2.2.2.1 39 10 (some (g1.2.2.2.1 + 1)) 39 10 = _; rw [zu_at]
    have C3 : g3.2.2.2.1 = g1.2.2.2.1 + 1 := by rw [← hg3]; exact c2
    have Q3 : g3.2.2.2.2 = g1.2.2.2.2 + q 117 42 * 100 := by rw [← hg3]; exact q2
    have O3 : ∀ a, mkO g3 a ↔ mkO g1 a := mkO_eq (fun k => R3 19 k (by omega) (by omega))
    have I3 : ∀ a, a ≤ g1.2.2.2.1 → jup I2 (g1.2.2.2.1 + 1) (fun _ => nI 0) a = I2 a := fun a ha => by rw [jup_n (by omega)]
    have J3 : ∀ a, a ≤ g1.2.2.2.1 → jup J (g1.2.2.2.1 + 1) (fun _ => 0) a = J a := fun a ha => by rw [jup_n (by omega)]
    generalize hI3 : jup I2 (g1.2.2.2.1 + 1) (fun _ => nI 0) = I3' at *
    generalize hJ3 : jup J (g1.2.2.2.1 + 1) (fun _ => (0 : Int64)) = J3' at *
    have T3 : fW L sr (g1.2.2.2.1 + 1) g g3 I I3' J J3' := by
      refine ⟨fun a ha hno => ?_, fun a ha => ?_, fun a k ha h19 hx => ?_, by omega, Or.inr (by omega)⟩
      · obtain ⟨t1, t2⟩ := T1.1 a ha hno
        exact ⟨fun hx => ⟨(I3 a (by omega)).trans (t1 hx).1, J3 a (by omega)⟩, fun h => t2 ((O3 a).mp h)⟩
      · exact ⟨(K3 a (by omega)).1.trans (K1 a).1, (K3 a (by omega)).2.trans (K1 a).2⟩
      · exact (R3 a k (by omega) (by omega)).trans (R1 a k (by omega))
    have S3 := cSu_T hS hI T3 s2
    obtain ⟨kr, rr, srr, gr, fr, c, base, N, z1, -⟩ := id I1
    have hmo : ∀ a, mkO g1 a → a ≤ g1.2.2.2.1 := by
      intro a ha
      have hm := (mkO_iff z1).mp ha
      obtain ⟨-, -, -, -, -, -, -, -, -, -, -, -, -, -, -, -, -, -, -, w1, w2, w3, w4, w5⟩ := z1
      omega
    have I3m : mkI L g3 I3' (PC + 1) (PQ + q 117 42 * 100) := mkI_T I1 (fun a ha => I3 a (hmo a ha)) (fun a ha => K3 a (by omega)) (fun k => R3 19 k (by omega) (by omega)) C3 Q3 (by omega) (by omega)
    have B3 : cB L q P D W su (g1.2.2.2.1 + 1) F (PC + 1) (PQ + q 117 42 * 100) g3 I3' J3' := by
      refine ⟨⟨I3m, fun a ha hb h => n1 a ha hb ((O3 a).mp h)⟩, ⟨(R3 39 2 (by omega) (by omega)).trans r2, r310⟩, ⟨by omega, K3n.1, fun h => by have := hmo _ ((O3 _).mp h); omega, Or.inr (by omega), by rw [K3n.2]; omega, by rw [K3n.2]; omega⟩, S3, hc⟩
    have G3 : cG q (0, 0, fun _ => none) (g1.2.2.2.1 + 1) I3' := by
      have h := G1 (g1.2.2.2.1 + 1)
      refine ⟨by rw [I3 39 (by omega)]; exact h.1, by rw [I3 39 (by omega)]; exact h.2.1, h.2.2.1, fun j hj => Or.inl ⟨rfl, ?_⟩⟩
      rw [I3 49 (by omega)]
      exact f2 j (by omega)
    obtain ⟨g', I', J', c1, c2', c3, c4, c5⟩ := c_rf_66 d L g3 B3 G3
    refine ⟨g', I', J', g1.2.2.2.1 + 1, PC + 1, PQ + q 117 42 * 100, c1, by omega, by omega, fW_Z T3 c2', c3, c4, ?_⟩
    rw [jif_f (show ¬ nI (q 117 42 * 100) ≤ Int32.ofNat ((jGs L g1).2.1 sr) from nI_ge (by omega) (by omega)), if_pos k9', rp, jo_some, if_pos k6, c_alarmCount (d + 19) L g1 hpg, jcI_some, e_Analysis_refresh_58, e100, nI_c (by omega), jrm_t hC2.1 hC2.2, jb_t.mpr (show (0 : Int32) ≤ nI (q 117 42 * 100) from nI_pos' (by omega)), Bool.and_self, cond_true, x2, hI3, hJ3, e_Analysis_refresh_63, rj2, hg3]
    exact c5
end CC

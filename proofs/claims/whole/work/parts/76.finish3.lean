/-! THE CLASS: finish, whole -/
set_option maxRecDepth 100000
/-- all else stays, but for one cell -/
def fX (L : Nat) (g g' : jG) (I I' : Nat → Nat → Int32) (J J' : Nat → Nat → Int64) (out : Nat) : Prop := (∀ a, a ≤ g.2.2.2.1 → ¬ mkO g a → (a ≠ out → I' a = I a ∧ J' a = J a) ∧ ¬ mkO g' a) ∧ (∀ a, a ≤ g.2.2.2.1 → gK L g' a = gK L g a ∧ gN L g' a = gN L g a) ∧ (∀ a k, a ≤ g.2.2.2.1 → a ≠ 19 → g'.2.2.1 a k = g.2.2.1 a k) ∧ g.2.2.2.1 ≤ g'.2.2.2.1
theorem fG_X {L : Nat} {g g' : jG} {I I' : Nat → Nat → Int32} {J J' : Nat → Nat → Int64} {out : Nat} (h : fG L g g' I I' J J') : fX L g g' I I' J J' out := ⟨fun a ha hn => ⟨fun _ => ⟨(h.1 a ha hn).1, (h.1 a ha hn).2.1⟩, (h.1 a ha hn).2.2⟩, h.2⟩
theorem fX_trans {L : Nat} {g g' g'' : jG} {I I' I'' : Nat → Nat → Int32} {J J' J'' : Nat → Nat → Int64} {out : Nat} (h : fX L g g' I I' J J' out) (h' : fX L g' g'' I' I'' J' J'' out) : fX L g g'' I I'' J J'' out := by
  obtain ⟨a1, a2, a3, a4⟩ := h
  obtain ⟨b1, b2, b3, b4⟩ := h'
  refine ⟨fun a ha hn => ?_, fun a ha => ?_, fun a k ha hn => ?_, Nat.le_trans a4 b4⟩
  · obtain ⟨c1, c2⟩ := a1 a ha hn
    obtain ⟨e1, e2⟩ := b1 a (Nat.le_trans ha a4) c2
    exact ⟨fun ho => ⟨(e1 ho).1.trans (c1 ho).1, (e1 ho).2.trans (c1 ho).2⟩, e2⟩
  · have c := a2 a ha
    have e := b2 a (Nat.le_trans ha a4)
    exact ⟨e.1.trans c.1, e.2.trans c.2⟩
  · exact (b3 a k (Nat.le_trans ha a4) hn).trans (a3 a k ha hn)
theorem mkO_iff {L g kr rr sr gr fr c} (hA : mkA L g kr rr sr gr fr c) {a : Nat} : mkO g a ↔ (a = 19 ∨ a = 20 ∨ a = 21 ∨ a = 22 ∨ a = 23 ∨ a = 29 ∨ a = kr ∨ a = rr ∨ a = sr ∨ a = gr ∨ a = fr) := by
  obtain ⟨a1, a2, a3, a4, a5, -⟩ := hA
  unfold mkO
  rw [a1, a2, a3, a4, a5]
  simp only [Option.some.injEq]
  constructor
  · rintro (h | h | h | h | h | h | h | h | h | h | h) <;> subst h <;> simp only [true_or, or_true]
  · rintro (h | h | h | h | h | h | h | h | h | h | h) <;> subst h <;> simp only [true_or, or_true]
theorem mkO_2 {L g kr rr sr gr fr c} (hA : mkA L g kr rr sr gr fr c) {a : Nat} (h : gK L g a = 2) : ¬ mkO g a := by
  intro ho
  obtain ⟨a1, a2, a3, a4, a5, a6, a7, a8, a9, a10, -⟩ := id hA
  rcases (mkO_iff hA).mp ho with e | e | e | e | e | e | e | e | e | e | e <;> subst e
  · exact absurd ((gK_19 L g).symm.trans h) (by omega)
  · exact absurd ((show gK L g 20 = 16 from rfl).symm.trans h) (by omega)
  · exact absurd ((show gK L g 21 = 16 from rfl).symm.trans h) (by omega)
  · exact absurd ((show gK L g 22 = 16 from rfl).symm.trans h) (by omega)
  · exact absurd ((show gK L g 23 = 16 from rfl).symm.trans h) (by omega)
  · exact absurd ((show gK L g 29 = 16 from rfl).symm.trans h) (by omega)
  · omega
  · omega
  · omega
  · omega
  · omega
theorem RS_G {L g0 I0 J0 kr rr sr a b c g I J gr fr} (hA0 : mkA L g0 kr rr sr a b c) (h : RS L g0 I0 J0 kr rr sr a b c g I J gr fr) : fG L g0 g I0 I J0 J := by
  obtain ⟨r1, r2, r3, r4, r5, r6, r7, r8, r9⟩ := h
  refine ⟨fun x hx hn => ?_, fun x _ => r5 x, fun x k _ hn => r6 x k hn, by omega⟩
  obtain ⟨o1, o2, o3, o4, o5, o6, o7, o8, o9, o10, o11⟩ := mkO_rr hA0 hn
  refine ⟨r7 x o4 o5 o6, r9 x o11, fun ho => ?_⟩
  rcases (mkO_iff r1).mp ho with e | e | e | e | e | e | e | e | e | e | e <;> omega
section CC
variable (d L : Nat)
/-- a machine is described -/
def mkD (I : Nat → Nat → Int32) (J : Nat → Nat → Int64) (n s m E : Nat) (stp : Nat → Nat) : Prop := I 19 4 = nI n ∧ I 19 5 = nI s ∧ I 19 6 = nI m ∧ n ≤ 20 ∧ s ≤ 20 ∧ m < 3 ∧ (∀ q, q < n → J 20 q = lN (stp q) ∧ stp q < 1152921504606846976) ∧ ∀ q, q < n → J 21 q = lN (sgn E n stp q)
theorem c_fin_start {g : jG} {I : Nat → Nat → Int32} {J : Nat → Nat → Int64} {PC PQ n s m E k0 a2 : Nat} {stp cd : Nat → Nat} {V : Nat → Prop} (hI : mkI L g I PC PQ) (hD : mkD I J n s m E stp) (hV : vOk n (fun q l => sT (stp q) l) V cd k0) : ∃ K T I' J', BF L g I J PC PQ n s m E stp V k0 6 1 (3 * 0) K T g I' J' ∧ jcall (d + 2) 42 [.ref 19, .int (nI k0), .ref a2] (jGs L g, I, J) = jval (d + 1) 42 37 [.ref 19, jjunk, .ref a2, .int (nI 1), .int (nI 0), jjunk, jjunk, jjunk, jjunk, jjunk] [] (jGs L g, I', J') := by
  obtain ⟨kr, rr, sr, gr, fr, c, base, N, hA, c6, c14, i7, i12, hb, hS, h168, hPC, hPQ, hPC2, hPQ2⟩ := hI
  obtain ⟨d1, d2, d3, d4, d5, d6, d7, d8⟩ := hD
  obtain ⟨a1, a2', a3, a4, a5, a6, a7, a8, a9, a10, a11, a12, a13, a14, a15, a16, a17, a18, a19, a20, a21, a22, a23, a24⟩ := id hA
  have n3 : 19 ≠ sr := ne_K (gK_19 L g) a8 (by omega)
  have hp1 : 2 ^ 6 ≤ 2 ^ c := Nat.pow_le_pow_right (by omega) c6
  obtain ⟨I1, base', b1, b2, b3, b4, b5, b6⟩ := c_forget d L g (J := J) a3 a8 a13 c14 i7 i12 hb hS
  have i19 : ∀ j, j ≠ 7 → j ≠ 16 → j ≠ 8 → ju (ju (ju I1 19 7 (nI 0)) 19 16 (nI 0)) 19 8 (nI 64) 19 j = I1 19 j := fun j j1 j2 j3 => by rw [zu_k j3, zu_k j2, zu_k j1]
  have irow : ∀ a, a ≠ 19 → ju (ju (ju I1 19 7 (nI 0)) 19 16 (nI 0)) 19 8 (nI 64) a = I1 a := fun a ha => by rw [ju_n ha, ju_n ha, ju_n ha]
  have h8 : ju (ju (ju I1 19 7 (nI 0)) 19 16 (nI 0)) 19 8 (nI 64) 19 8 = nI (2 ^ 6) := by rw [zu_at]
  have h7 : ju (ju (ju I1 19 7 (nI 0)) 19 16 (nI 0)) 19 8 (nI 64) 19 7 = nI 0 := by rw [zu_k (by omega), zu_k (by omega), zu_at]
  have h16 : ju (ju (ju I1 19 7 (nI 0)) 19 16 (nI 0)) 19 8 (nI 64) 19 16 = nI 0 := by rw [zu_k (by omega), zu_at]
  have hM : mkM (ju (ju (ju I1 19 7 (nI 0)) 19 16 (nI 0)) 19 8 (nI 64)) J n s m E stp 6 base' := ⟨by rw [i19 4 (by omega) (by omega) (by omega), b3 4 (by omega)]; exact d1, by rw [i19 5 (by omega) (by omega) (by omega), b3 5 (by omega)]; exact d2, by rw [i19 6 (by omega) (by omega) (by omega), b3 6 (by omega)]; exact d3, h8, by rw [i19 12 (by omega) (by omega) (by omega)]; exact b4, d4, d5, d6, by omega, by omega, by omega, d7, d8⟩
  have hF : mkF (ju (ju (ju I1 19 7 (nI 0)) 19 16 (nI 0)) 19 8 (nI 64)) J kr rr sr gr n s m E stp 6 base' 0 0 (fun _ => k0) (fun _ => 0) (fun _ => 0) (fun _ => 0) := ⟨h7, h16, by omega, by omega, fun i hi => absurd hi (by omega), by rw [irow sr (by omega)]; exact tbl_0 (fun x hx => b5 x (by have : (2 : Nat) ^ (6 + 1) = 128 := rfl; omega)), nmb_0 _ _ _, fun a ha => absurd ha (by omega), fun i hi => absurd hi (by omega), fun i hi => absurd hi (by omega)⟩
  generalize hI2 : ju (ju (ju I1 19 7 (nI 0)) 19 16 (nI 0)) 19 8 (nI 64) = I2 at *
  have hk0 := (hV.2.2.1 k0 hV.1).1
  rcases c_place d L g hA hM hF c6 c14 hk0 (by have : (2 : Nat) ^ 6 = 64 := rfl; omega) with ⟨i, i1, -⟩ | ⟨-, hG, -⟩ | ⟨-, I3, J3, G', p', σ', ν', q1, q2, q3, q4⟩
  · omega
  · omega
  · refine ⟨jup (fun _ => k0) 0 k0, fun _ => 0, I3, J3, ⟨kr, rr, sr, gr, fr, c, base', G', p', σ', ν', hA, mkM_f hM q1, q3, c6, c14, fun x hx => ?_, h168, hPC, hPQ, hPC2, hPQ2, fG_same (fun a ha => ?_), bf_0 _ _ _, jup_s _ _ _, fun i hi => ?_, fun x hx => absurd hx (by omega)⟩, ?_⟩
    · rcases q2 x with h | h
      · obtain ⟨v, v1, v2⟩ := b5 x hx
        exact ⟨v, by omega, by rw [h, irow sr (by omega)]; exact v2⟩
      · exact ⟨base' + (0 + 1), by omega, h⟩
    · obtain ⟨o1, o2, o3, o4, o5, o6, o7, o8, o9, o10, o11⟩ := mkO_rr hA ha
      exact ⟨by rw [q1.1 a o1 o2 o3 o4 o6, irow a o6, b2 a o3 o6], q1.2.2.2 a o11⟩
    · have : i = 0 := by omega
      rw [this, jup_s]
      exact ⟨hV.1, [], kW_nil, rfl⟩
    · rw [c_Maker_finish, e_Maker_finish_0, b6, jcV_some, e_Maker_finish_4, show (0 : Int32) = nI 0 from rfl, show (64 : Int32) = nI 64 from rfl, hI2, q4, jcI_some, e_Maker_finish_25, jif_f (by decide), e_Maker_finish_33]
      rfl
theorem c_finish {g : jG} {I : Nat → Nat → Int32} {J : Nat → Nat → Int64} {PC PQ n s m E k0 out : Nat} {stp cd : Nat → Nat} {V : Nat → Prop} (hI : mkI L g I PC PQ) (hD : mkD I J n s m E stp) (hV : vOk n (fun q l => sT (stp q) l) V cd k0) (hsp : kSp n s m (fun q l => sT (stp q) l)) (ho : gK L g out = 2) (hoC : out ≤ g.2.2.2.1) :
    ∃ g' I' J', mkI L g' I' PC PQ ∧ fX L g g' I I' J J' out ∧ ((∃ A, kMk (kG (nxM n (fun q l => sT (stp q) l)) (enM n s m (fun q l => sT (stp q) l) E) k0) = some A ∧ cR L g' I' J' out A ∧ jcall (d + 2) 42 [.ref 19, .int (nI k0), .ref out] (jGs L g, I, J) = some (some (.int (nI 1)), (jGs L g', I', J'))) ∨ (kMk (kG (nxM n (fun q l => sT (stp q) l)) (enM n s m (fun q l => sT (stp q) l) E) k0) = none ∧ I' out = I out ∧ J' out = J out ∧ jcall (d + 2) 42 [.ref 19, .int (nI k0), .ref out] (jGs L g, I, J) = some (some (.int (nI 0)), (jGs L g', I', J')))) := by
  have hno : ¬ mkO g out := by
    obtain ⟨kr, rr, sr, gr, fr, c, base, N, hA, -⟩ := hI
    exact mkO_2 hA ho
  obtain ⟨K0, T0, I1, J1, hBF, e1⟩ := c_fin_start d L (a2 := out) hI hD hV
  rw [e1]
  rcases c_fin_out d L (a2 := out) hV hsp 10240 0 6 1 K0 T0 g I1 J1 (by omega) (by omega) hBF (fun i hi => absurd hi (by omega)) with ⟨w1, g', I', J', w2, w3, w4⟩ | ⟨e', N, K, T, g1, I2, J2, hB, hg, e2⟩
  · exact ⟨g', I', J', w2, fG_X w3, Or.inr ⟨kMk_none w1, (w3.1 out hoC hno).1, (w3.1 out hoC hno).2.1, w4⟩⟩
  rw [e2]
  have hN := BF_N hV hB
  obtain ⟨kr, rr, sr, gr, fr, c, base, G, p, σ, ν, hA, hM, hF, b4, b5, b6, b7, b8, b9, b10, b11, b12, b13, b14, b15, b16⟩ := id hB
  obtain ⟨m1, m2, m3, m4, m5, m6, m7, m8, m9, m10, m11, m12, m13⟩ := id hM
  obtain ⟨f1, f2, f3, f4, f5, f6, f7, f8, f9, f10⟩ := id hF
  obtain ⟨a1, a2', a3, a4, a5, a6, a7, a8, a9, a10, a11, a12, a13, a14, a15, a16, a17, a18, a19, a20, a21, a22, a23, a24⟩ := id hA
  have hp2 : 2 ^ e' ≤ 2 ^ 14 := Nat.pow_le_pow_right (by omega) m10
  have hp3 : 2 ^ e' ≤ 2 ^ c := Nat.pow_le_pow_right (by omega) b4
  have hT : ∀ q, q < 3 * N → T q < N := fun q hq => (b13.2.1 q hq).1
  have hw := bA_wf (e := fun i => enM n s m (fun q l => sT (stp q) l) E (K i)) b13
  have hnum := bA_num (e := fun i => enM n s m (fun q l => sT (stp q) l) E (K i)) b13 hg
  have hN0 : 0 < N := hw.1
  have hL : ∀ (w : List Nat) (i : Nat), i < N → kW w → kL (bA N (fun i => enM n s m (fun q l => sT (stp q) l) E (K i)) T) i w = aK n s m (fun q l => sT (stp q) l) E (K i) w := fun w i hi hw' => by rw [bA_L (en := enM n s m (fun q l => sT (stp q) l) E) b13 (fun i _ => rfl) w i hi hw', kG_M hsp w _ hw']
  have hL0 : ∀ w, kW w → kL (bA N (fun i => enM n s m (fun q l => sT (stp q) l) E (K i)) T) 0 w = kG (nxM n (fun q l => sT (stp q) l)) (enM n s m (fun q l => sT (stp q) l) E) k0 w := fun w hw' => by rw [bA_L (en := enM n s m (fun q l => sT (stp q) l) E) b13 (fun i _ => rfl) w 0 hN0 hw', b14]
  have hpt : kPt N G ν := ⟨f3, fun i hi => (f7.2.1 i hi).1, f7.2.2⟩
  have hfine : kFine (bA N (fun i => enM n s m (fun q l => sT (stp q) l) E (K i)) T) ν := fun i hi j hj hne => by
    obtain ⟨w, w1, w2⟩ := sgK_ne (E := E) (n := n) (s := s) (stp := stp) (k1 := K i) (k2 := K j) m8 (fun e => hne ((nmb_iff f7 hi hj).mpr e))
    exact ⟨w, w1, by rw [hL w i hi w1, hL w j hj w1]; exact w2⟩
  have hen : ∀ i, i < N → ∀ j, j < N → ν i = ν j → enM n s m (fun q l => sT (stp q) l) E (K i) = enM n s m (fun q l => sT (stp q) l) E (K j) := fun i hi j hj h => by
    have h1 : sgK E n s m stp (K i) = sgK E n s m stp (K j) := (nmb_iff f7 hi hj).mp h
    rw [← sgK_end m8, ← sgK_end m8, h1]
  have hRS : RS L g1 I2 J2 kr rr sr gr fr c g1 I2 J2 gr fr := ⟨hA, Or.inl ⟨rfl, rfl⟩, rfl, rfl, fun _ => ⟨rfl, rfl⟩, fun _ _ _ => rfl, fun _ _ _ _ => rfl, fun _ _ => rfl, fun _ _ => rfl⟩
  have hmkI : ∀ g' I' J' gr' fr', RS L g1 I2 J2 kr rr sr gr fr c g' I' J' gr' fr' → mkI L g' I' PC PQ := fun g' I' J' gr' fr' hR => by
    obtain ⟨r1, r2, r3, r4, r5, r6, r7, r8, r9⟩ := hR
    have n7 : sr ≠ gr := ne_K a8 a9 (by omega)
    have n8 : sr ≠ fr := ne_K a8 a10 (by omega)
    have n9 : sr ≠ 19 := ne_K a8 (gK_19 L g1) (by omega)
    exact ⟨kr, rr, sr, gr', fr', c, base, N, r1, by omega, b5, by rw [r8 7 (by omega)]; exact f1, by rw [r8 12 (by omega)]; exact m5, by omega, fun x hx => by rw [r7 sr n7 n8 n9]; exact b6 x hx, by omega, by unfold pC at b8 ⊢; rw [r3]; exact b8, by unfold pQ at b9 ⊢; rw [r4]; exact b9, b10, b11⟩
  have e3 : jval (d + 1) 42 226 [.ref 19, jjunk, .ref out, .int (nI 1), jjunk, jjunk, jjunk, jjunk, jjunk, jjunk] [] (jGs L g1, I2, J2) = jcI (jval d 46 4 [.ref 19, .int (nI 0), .int (nI 0), jjunk, jjunk, jjunk, jjunk, jjunk] [] (jGs L g1, I2, J2)) (fun r2 S1 => jval (d + 1) 42 234 [.ref 19, jjunk, .ref out, jjunk, jjunk, jjunk, jjunk, jjunk, jjunk, jjunk] [.int r2] S1) := by
    rw [e_Maker_finish_226, jif_f (by decide), c_Maker_refine, e_Maker_refine_0]
    rfl
  rw [e3]
  have n4 : rr ≠ gr := ne_K a7 a9 (by omega)
  have n5 : rr ≠ fr := ne_K a7 a10 (by omega)
  rcases c_ref_loop d L (g0 := g1) (I0 := I2) (J0 := J2) (kr := kr) (sr := sr) b5 (by omega) f1 hT b16 ⟨n4, n5⟩ hw hnum 11 0 0 G ν g1 I2 J2 gr fr (by omega) (by omega) (by omega) hpt hfine hen (fun h0 => absurd (hpt.2.1 0 hN0) (by omega)) hRS f9 f2 with ⟨w1, g', I', J', gr', fr', w2, w3⟩ | ⟨G', ν', g', I', J', gr', fr', w1, w2, w3, w4, w5, w6, w7, w8⟩
  · have hfG := fG_trans b12 (RS_G hA w2)
    refine ⟨g', I', J', hmkI _ _ _ _ _ w2, fG_X hfG, Or.inr ⟨kMk_none (kBig_congr hL0 w1), (hfG.1 out hoC hno).1, (hfG.1 out hoC hno).2.1, ?_⟩⟩
    rw [w3, jcI_some, e_Maker_finish_234, jif_t (by decide), e_Maker_finish_237, jb01_0]
    rfl
  · have hfG := fG_trans b12 (RS_G hA w5)
    have hI' := hmkI _ _ _ _ _ w5
    obtain ⟨r1, r2, r3, r4, r5, r6, r7, r8, r9⟩ := id w5
    obtain ⟨mem, mm1, mm2, mm3⟩ := kPt_mem w1
    obtain ⟨v1, v2⟩ := kQuotN hT b13.2.2.1 hg hN0 hw w1 w2 w3 w4 mm1 mm2 mm3
    have hmk := kMk_some v1 (fun w hw' => (v2 w hw').trans (hL0 w hw'))
    have ho' : gK L g' out = 2 := by rw [(hfG.2.1 out hoC).1]; exact ho
    have ho2 : (jGs L g').1 out = 2 := ho'
    have hno' : ¬ mkO g' out := mkO_2 r1 ho'
    have hno2 := mkO_rr r1 hno'
    have n19 : rr ≠ 19 := ne_K a7 (gK_19 L g1) (by omega)
    have hwr := c_write_14 d L (g := g') (I := I') (J := J') (out := out) (en := fun i => enM n s m (fun q l => sT (stp q) l) E (K i)) r1.2.2.2.1 r1.2.1 r1.2.2.2.2.2.2.2.2.1 r1.2.2.2.2.2.2.1 r1.2.2.2.2.2.2.2.2.2.2.2.2.2.1 r1.2.2.2.2.2.2.2.2.2.2.2.1 b5 (by omega) (by rw [r8 7 (by omega)]; exact f1) w7 hT (fun x hx => by rw [r7 rr n4 n5 n19]; exact b16 x hx) (fun i hi => by rw [r7 rr n4 n5 n19]; exact f10 i hi) w6 w1 mm1 mm3 N 0 0 (by omega) (by omega) (fun a ha => absurd ha (by omega)) (fun _ => by omega)
    have hz : ∀ s, np (flW (fun q => ν' (T (3 * mem (q / 3) + q % 3))) 0 s) 15 = 0 := fun s => np_z 15 (fun j _ => if_neg (by omega))
    rw [hz, hz, show kEm (fun a => (fun i => enM n s m (fun q l => sT (stp q) l) E (K i)) (mem a)) 0 = 0 from rfl] at hwr
    refine ⟨g', ju (ju I' out 2 (nI (kEm (fun a => enM n s m (fun q l => sT (stp q) l) E (K (mem a))) G'))) out 3 (nI G'), ju (ju J' out 0 (lN (np (flW (fun q => ν' (T (3 * mem (q / 3) + q % 3))) G' 0) 15))) out 1 (lN (np (flW (fun q => ν' (T (3 * mem (q / 3) + q % 3))) G' 5) 15)), ?_, ?_, Or.inl ⟨_, hmk, ⟨ho', v1, ?_, ?_, ?_, ?_⟩, ?_⟩⟩
    · obtain ⟨kr, rr, sr, gr, fr, c, base, N, z1, z2, z3, z4, z5, z6, z7, z8⟩ := hI'
      have o := mkO_rr z1 hno'
      exact ⟨kr, rr, sr, gr, fr, c, base, N, z1, z2, z3, by rw [zu_a (by omega), zu_a (by omega)]; exact z4, by rw [zu_a (by omega), zu_a (by omega)]; exact z5, z6, fun x hx => by rw [zu_a (by omega), zu_a (by omega)]; exact z7 x hx, z8⟩
    · refine fX_trans (fG_X hfG) ⟨fun a _ hn => ⟨fun hne => ⟨by rw [ju_n hne, ju_n hne], by rw [ju_n hne, ju_n hne]⟩, hn⟩, fun _ _ => ⟨rfl, rfl⟩, fun _ _ _ _ => rfl, Nat.le_refl _⟩
    · rw [zu_k (by omega), zu_at]
      congr 1
      exact np_cg 15 (fun j hj => by
        unfold flW
        by_cases h : 0 + j / 3 < G'
        · rw [if_pos h]
          show _ = (if 0 + j / 3 < G' ∧ j % 3 < 3 then _ else 0)
          rw [if_pos ⟨h, by omega⟩]
        · rw [if_neg h]
          show _ = (if 0 + j / 3 < G' ∧ j % 3 < 3 then _ else 0)
          rw [if_neg (fun hh => h hh.1)])
    · rw [zu_at]
      congr 1
      exact np_cg 15 (fun j hj => by
        unfold flW
        by_cases h : 5 + j / 3 < G'
        · rw [if_pos h]
          show _ = (if 5 + j / 3 < G' ∧ j % 3 < 3 then _ else 0)
          rw [if_pos ⟨h, by omega⟩]
        · rw [if_neg h]
          show _ = (if 5 + j / 3 < G' ∧ j % 3 < 3 then _ else 0)
          rw [if_neg (fun hh => h hh.1)])
    · rw [zu_k (by omega), zu_at]
      congr 1
      exact kEm_cg G' (fun r hr => by
        show _ = (if r < G' then _ else false)
        rw [if_pos hr])
    · rw [zu_at]
      rfl
    · rw [w8, jcI_some, e_Maker_finish_234, jif_f (by decide), c_Maker_write, e_Maker_write_0, show (0 : Int64) = lN 0 from rfl, show (0 : Int32) = nI 0 from rfl, hwr, e_Maker_write_161, if_pos ho2, if_pos ho2, if_pos ho2, if_pos ho2, jcV_some, e_Maker_finish_244, jb01_1]
      rfl
end CC

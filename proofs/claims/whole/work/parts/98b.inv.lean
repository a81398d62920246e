/-! TOP: what both objects hold -/
set_option maxRecDepth 100000
/-- a setup: patterns, the program's text and its length, delay, similar -/
abbrev zS : Type := (Nat → kA) × (Nat → Nat) × Nat × Nat × Nat
def zq (z : zS) : Nat → Nat → Nat := (pPrg z.2.1 z.2.2.1).2.2
noncomputable def zR (z : zS) : Option yV × yG := yPrg (zq z) z.1 z.2.2.2.1 z.2.2.2.2 (z.2.2.1 + 1)
def zOk (z : zS) : Prop := (∀ i, i < 4 → kV (z.1 i) ∧ 0 < sm (z.1 i) 220 0) ∧ (z.2.2.1 ≤ 120 ∧ (∀ i, i < z.2.2.1 → z.2.1 i < 128) ∧ (pPrg z.2.1 z.2.2.1).1 = true) ∧ (z.2.2.2.1 ≤ 5 ∧ z.2.2.2.2 < 2 ∧ pBd 120 (zq z) ∧ zq z 35 8 ≤ 120) ∧ ∃ L0 g0 I0 B0 lo x, nd L0 (zq z) g0 I0 B0 (z.2.2.1 + 1) 0 lo x 0 (zq z 117 35)
theorem pPrg_8 {c : Nat → Nat} {N i : Nat} {q : Nat → Nat → Nat} (hN : N ≤ 120) (h : pPrg c N = (true, i, q)) : q 35 8 ≤ 120 := by
  have hJ := pBlk_j c N (N + 1) 0 0 (fun _ _ => 0) (by omega)
  have hI := pBlk_i c N (N + 1) 0 0 (fun _ _ => 0) (by omega)
  unfold pPrg at h
  rcases hp : pBlk c N (N + 1) 0 0 (fun _ _ => 0) with ⟨b, i1, q1⟩
  rw [hp] at h hJ hI
  cases b with
  | false => cases h
  | true =>
    rw [pGo_t] at h
    split at h
    · cases h
      have hj2 : q 35 8 = 0 ∨ q 35 8 + 0 + 1 ≤ 0 + i := (hJ rfl).2
      have hi : i ≤ N := (hI rfl).2.1
      omega
    · cases h
/-- text, tallies, setup, setups before, what ran last -/
abbrev zT : Type := Nat × (Nat → Nat) × (Nat → Int32) × zS × Nat × (Nat → zS) × (Nat → List Nat) × Nat
def zWf (T : zT) : Prop := (T.1 ≤ 120 ∧ ∀ i, i < T.1 → T.2.1 i < 128) ∧ zOk T.2.2.2.1 ∧ T.2.2.2.2.1 ≤ 6 ∧ (∀ i, i < T.2.2.2.2.1 → zOk (T.2.2.2.2.2.1 i)) ∧ T.2.2.2.2.2.2.2 ≤ 100
/-! the reference -/
def rK (I : Nat → Nat → Int32) (i : Nat) (z : zS) : Prop := (∀ k, k < 4 → mR (fun _ j => I 168 (251 * i + j)) k (z.1 k)) ∧ (∀ j, j < z.2.2.1 → I 168 (251 * i + 128 + j) = nI (z.2.1 j)) ∧ I 168 (251 * i + 248) = nI z.2.2.1 ∧ I 168 (251 * i + 249) = nI z.2.2.2.1 ∧ I 168 (251 * i + 250) = nI z.2.2.2.2
def rI (T : zT) (I : Nat → Nat → Int32) : Prop := (I 117 50 = nI T.1 ∧ ∀ i, i < T.1 → I 147 i = nI (T.2.1 i)) ∧ (∀ j, j < 3 → I 118 j = T.2.2.1 j) ∧ rB (zq T.2.2.2.1) T.2.2.2.1.1 T.2.2.2.1.2.2.2.1 T.2.2.2.1.2.2.2.2 I ∧ (I 117 87 = nI T.2.2.2.1.2.2.1 ∧ ∀ i, i < T.2.2.2.1.2.2.1 → I 167 i = nI (T.2.2.2.1.2.1 i)) ∧ (I 117 60 = 0 ∨ (I 117 60 = 1 ∧ rSt I 48 (zR T.2.2.2.1).1 ∧ rG (zq T.2.2.2.1) (zR T.2.2.2.1).2 0 0 I)) ∧ (I 117 88 = nI T.2.2.2.2.1 ∧ ∀ i, i < T.2.2.2.2.1 → rK I i (T.2.2.2.2.2.1 i)) ∧ uT T.2.2.2.2.2.2.1 159 158 I ∧ I 117 78 = nI T.2.2.2.2.2.2.2
/-- the places that count -/
def iX (a j : Nat) : Prop := a = 118 ∨ (a = 119 ∧ (j < 128 ∨ (1536 ≤ j ∧ j < 1664))) ∨ a = 120 ∨ (138 ≤ a ∧ a ≤ 147) ∨ (a = 151 ∧ j = 48) ∨ a = 153 ∨ a = 154 ∨ a = 158 ∨ a = 159 ∨ a = 167 ∨ a = 168 ∨ (a = 117 ∧ (j = 35 ∨ j = 41 ∨ j = 42 ∨ j = 44 ∨ j = 48 ∨ j = 50 ∨ j = 58 ∨ j = 59 ∨ j = 60 ∨ j = 63 ∨ j = 64 ∨ j = 78 ∨ j = 87 ∨ j = 88))
theorem rQ_x {q : Nat → Nat → Nat} {I I' : Nat → Nat → Int32} (h : rQ q I) (he : ∀ a k, (a = 120 ∨ (138 ≤ a ∧ a ≤ 146) ∨ (a = 117 ∧ (k = 35 ∨ k = 41 ∨ k = 42 ∨ k = 44 ∨ k = 48))) → I' a k = I a k) : rQ q I' := by
  obtain ⟨⟨h1, h2, h3, h4, h5⟩, h6, h7, h8, h9⟩ := h
  refine ⟨⟨?_, ?_, ?_, ?_, ?_⟩, fun k hk => ?_, fun k hk => ?_, fun k hk => ?_, fun k hk => ?_⟩
  · rw [he _ _ (by omega)]; exact h1
  · rw [he _ _ (by omega)]; exact h2
  · rw [he _ _ (by omega)]; exact h3
  · rw [he _ _ (by omega)]; exact h4
  · rw [he _ _ (by omega)]; exact h5
  · rw [he _ _ (by omega), he _ _ (by omega), he _ _ (by omega), he _ _ (by omega), he _ _ (by omega)]; exact h6 k hk
  · rw [he _ _ (by omega)]; exact h7 k hk
  · rw [he _ _ (by omega), he _ _ (by omega), he _ _ (by omega)]; exact h8 k hk
  · rw [he _ _ (by omega)]; exact h9 k hk
theorem rB_x {q : Nat → Nat → Nat} {P : Nat → kA} {D W : Nat} {I I' : Nat → Nat → Int32} (h : rB q P D W I) (he : ∀ a j, (a = 120 ∨ (138 ≤ a ∧ a ≤ 146) ∨ (a = 119 ∧ j < 128) ∨ (a = 117 ∧ (j = 35 ∨ j = 41 ∨ j = 42 ∨ j = 44 ∨ j = 48 ∨ j = 58 ∨ j = 59))) → I' a j = I a j) (h0 : ∀ y, y < 10240 → I' 125 y = 0) : rB q P D W I' := by
  obtain ⟨h1, h2, h3, h4, h5, h6⟩ := h
  exact ⟨rQ_x h1 (fun a k hk => he a k (by omega)), fun i hi => ⟨mR_cg (h2 i hi).1 (fun c hc => he _ _ (by omega)), (h2 i hi).2⟩, h0, by rw [he _ _ (by omega)]; exact h4, by rw [he _ _ (by omega)]; exact h5, h6⟩
theorem rK_x {I I' : Nat → Nat → Int32} {i : Nat} {z : zS} (h : rK I i z) (hM : z.2.2.1 ≤ 120) (he : ∀ j, 251 * i ≤ j → j < 251 * i + 251 → I' 168 j = I 168 j) : rK I' i z := by
  obtain ⟨h1, h2, h3, h4, h5⟩ := h
  refine ⟨fun k hk => ?_, fun j hj => by rw [he _ (by omega) (by omega)]; exact h2 j hj, by rw [he _ (by omega) (by omega)]; exact h3, by rw [he _ (by omega) (by omega)]; exact h4, by rw [he _ (by omega) (by omega)]; exact h5⟩
  obtain ⟨q1, q2, q3, q4, q5, q6, q7⟩ := h1 k hk
  refine ⟨q1, q2, q3, ?_, ?_, fun r hr l hl => ?_, fun c hc1 hc2 => ?_⟩
  · show I' 168 _ = _; rw [he _ (by omega) (by omega)]; exact q4
  · show I' 168 _ = _; rw [he _ (by omega) (by omega)]; exact q5
  · show I' 168 _ = _; rw [he _ (by omega) (by omega)]; exact q6 r hr l hl
  · show I' 168 _ = _; rw [he _ (by omega) (by omega)]; exact q7 c hc1 hc2
theorem rG_x {q : Nat → Nat → Nat} {G : yG} {I I' : Nat → Nat → Int32} (h : rG q G 0 0 I) (h1 : ∀ j, j = 63 ∨ j = 64 → I' 117 j = I 117 j) (h2 : ∀ j, I' 153 j = I 153 j) (h3 : ∀ j, I' 154 j = I 154 j) : rG q G 0 0 I' := ⟨by rw [h1 _ (by omega)]; exact h.1, by rw [h1 _ (by omega)]; exact h.2.1, h.2.2.1, h.2.2.2.1, fun j hj => rRa_cg (h.2.2.2.2 j hj) (h2 j) (fun x _ => h3 _)⟩
theorem rI_x {T : zT} {I I' : Nat → Nat → Int32} (h : rI T I) (hw : zWf T) (he : ∀ a j, iX a j → I' a j = I a j) (h0 : ∀ y, y < 10240 → I' 125 y = 0) : rI T I' := by
  obtain ⟨⟨h1, h2⟩, h3, h4, ⟨h5, h6⟩, h7, ⟨h8, h9⟩, h10, h11⟩ := h
  refine ⟨⟨by rw [he _ _ (by unfold iX; omega)]; exact h1, fun i hi => by rw [he _ _ (by unfold iX; omega)]; exact h2 i hi⟩, fun j hj => by rw [he _ _ (by unfold iX; omega)]; exact h3 j hj, rB_x h4 (fun a j hx => he a j (by unfold iX; omega)) h0, ⟨by rw [he _ _ (by unfold iX; omega)]; exact h5, fun i hi => by rw [he _ _ (by unfold iX; omega)]; exact h6 i hi⟩, ?_, ⟨by rw [he _ _ (by unfold iX; omega)]; exact h8, fun i hi => rK_x (h9 i hi) (hw.2.2.2.1 i hi).2.1.1 (fun j _ _ => he _ _ (by unfold iX; omega))⟩, uT_cg h10 (fun j => he _ _ (by unfold iX; omega)) (fun j => he _ _ (by unfold iX; omega)), by rw [he _ _ (by unfold iX; omega)]; exact h11⟩
  rcases h7 with e | ⟨e1, e2, e3⟩
  · exact Or.inl (by rw [he _ _ (by unfold iX; omega)]; exact e)
  · exact Or.inr ⟨by rw [he _ _ (by unfold iX; omega)]; exact e1, rSt_cg e2 (he _ _ (by unfold iX; omega)) (fun v hv c hc => he _ _ (by unfold iX; omega)), rG_x e3 (fun j hj => he _ _ (by unfold iX; omega)) (fun j => he _ _ (by unfold iX; omega)) (fun j => he _ _ (by unfold iX; omega))⟩
/-- the reference's own cells -/
def oR (I I' : Nat → Nat → Int32) (J J' : Nat → Nat → Int64) : Prop := ∀ a, ¬ (117 ≤ a ∧ a ≤ 168) → I' a = I a ∧ J' a = J a
theorem oR_t {I I1 I2 : Nat → Nat → Int32} {J J1 J2 : Nat → Nat → Int64} (h : oR I I1 J J1) (h' : oR I1 I2 J1 J2) : oR I I2 J J2 := fun a ha => ⟨(h' a ha).1.trans (h a ha).1, (h' a ha).2.trans (h a ha).2⟩
theorem oR_r (I : Nat → Nat → Int32) (J : Nat → Nat → Int64) : oR I I J J := fun _ _ => ⟨rfl, rfl⟩
theorem oR_I {I I' : Nat → Nat → Int32} {J : Nat → Nat → Int64} (h : ∀ a j, ¬ (117 ≤ a ∧ a ≤ 168) → I' a j = I a j) : oR I I' J J := fun a ha => ⟨funext (fun j => h a j ha), rfl⟩
section MM
variable (d L : Nat) (g : jG)
theorem r_ft {T : zT} {I : Nat → Nat → Int32} {J : Nat → Nat → Int64} (h : rI T I) (hw : zWf T) : ∃ I', rI T I' ∧ oR I I' J J ∧ (rSt I' 48 (zR T.2.2.2.1).1 ∧ rG (zq T.2.2.2.1) (zR T.2.2.2.1).2 0 0 I') ∧ jcall (d + 14) 229 [.ref 117] (jGs L g, I, J) = some (none, (jGs L g, I', J)) := by
  rcases h.2.2.2.2.1 with e | ⟨e1, e2, e3⟩
  · obtain ⟨L0, g0, I0, B0, lo, x, hn⟩ := hw.2.1.2.2.2
    obtain ⟨I', a1, a2, a3, a4, a5, a6, a7⟩ := r_foretells d L g (J := J) hn h.2.2.1 e
    have no : ∀ a j, a = 118 ∨ a = 147 ∨ a = 158 ∨ a = 159 ∨ a = 167 ∨ a = 168 ∨ (a = 117 ∧ (j = 50 ∨ j = 78 ∨ j = 87 ∨ j = 88)) → I' a j = I a j := fun a j ha => a1 a j (fun hx => by unfold yX mSc2 mScr at hx; omega) (by omega)
    obtain ⟨⟨h1, h2⟩, h3, h4, ⟨h5, h6⟩, h7, ⟨h8, h9⟩, h10, h11⟩ := h
    refine ⟨I', ⟨⟨by rw [no _ _ (by omega)]; exact h1, fun i hi => by rw [no _ _ (by omega)]; exact h2 i hi⟩, fun j hj => by rw [no _ _ (by omega)]; exact h3 j hj, a3, ⟨by rw [no _ _ (by omega)]; exact h5, fun i hi => by rw [no _ _ (by omega)]; exact h6 i hi⟩, Or.inr ⟨a4, a5, a6⟩, ⟨by rw [no _ _ (by omega)]; exact h8, fun i hi => rK_x (h9 i hi) (hw.2.2.2.1 i hi).2.1.1 (fun j _ _ => no _ _ (by omega))⟩, uT_cg h10 (fun j => no _ _ (by omega)) (fun j => no _ _ (by omega)), by rw [no _ _ (by omega)]; exact h11⟩, oR_I (fun a j ha => a1 a j (fun hx => by unfold yX mSc2 mScr at hx; omega) (by omega)), ⟨a5, a6⟩, a7⟩
  · refine ⟨I, h, oR_r I J, ⟨e2, e3⟩, ?_⟩
    rw [c_TextValuesModel_foretells, e_TextValuesModel_foretells_0, jif_f (by rw [e1]; decide)]
end MM
/-! the class -/
def cSz (L : Nat) (z : zS) (su sr : Nat) (g : jG) (I : Nat → Nat → Int32) (J : Nat → Nat → Int64) : Prop := cSu L (zq z) z.1 z.2.2.2.1 z.2.2.2.2 su sr (z.2.2.1 + 1) g I J ∧ (g.2.2.1 39 2 = some su → cZs L g I J 40 (zR z).1 ∧ cG (zq z) (zR z).2 sr I ∧ 100 * zq z 117 42 ≤ gN L g sr) ∧ ∀ a, g.2.2.1 39 2 = some a → a ≤ g.2.2.2.1
def cI (L : Nat) (T : zT) (su sr : Nat) (sa : Nat → Nat) (PC PQ : Nat) (g : jG) (I : Nat → Nat → Int32) (J : Nat → Nat → Int64) : Prop := (I 1 1 = nI T.1 ∧ ∀ i, i < T.1 → I 2 i = nI (T.2.1 i)) ∧ (I 1 5 = T.2.2.1 0 ∧ I 1 6 = T.2.2.1 1 ∧ I 1 7 = T.2.2.1 2) ∧ cA L sr PC PQ g I ∧ (g.2.2.1 1 2 = some su ∧ cSz L T.2.2.2.1 su sr g I J) ∧ (I 1 4 = nI T.2.2.2.2.1 ∧ ∀ i, i < T.2.2.2.2.1 → g.2.2.1 12 i = some (sa i) ∧ cSz L (T.2.2.2.2.2.1 i) (sa i) sr g I J ∧ sa i < su ∧ ∀ j, j < i → sa j < sa i) ∧ uT T.2.2.2.2.2.2.1 116 115 I ∧ I 111 12 = nI T.2.2.2.2.2.2.2
/-- the class' own cells -/
def oC (I I' : Nat → Nat → Int32) : Prop := ∀ a, 117 ≤ a → a ≤ 168 → I' a = I a
theorem cSz_R {L : Nat} {z : zS} {su sr : Nat} {g : jG} {I I' : Nat → Nat → Int32} {J J' : Nat → Nat → Int64} (h : cSz L z su sr g I J) (hsr : sr = 50 ∨ 171 ≤ sr) (hI : ∀ a, (okS a ∨ a = 39 ∨ (40 ≤ a ∧ a ≤ 45) ∨ a = 49 ∨ a = sr) → I' a = I a ∧ J' a = J a) : cSz L z su sr g I' J' := by
  refine ⟨cSu_I h.1 (fun a ha => hI a (Or.inl ha)), fun hx => ?_, h.2.2⟩
  obtain ⟨h1, h2, h3⟩ := h.2.1 hx
  exact ⟨cZs_fr h1 (fun a y1 y2 => hI a (by omega)), cG_e h2 ⟨(hI 39 (by omega)).1, (hI 49 (by omega)).1, (hI sr (by omega)).1⟩, h3⟩
theorem cI_R {L : Nat} {T : zT} {su sr : Nat} {sa : Nat → Nat} {PC PQ : Nat} {g : jG} {I I' : Nat → Nat → Int32} {J J' : Nat → Nat → Int64} (h : cI L T su sr sa PC PQ g I J) (hI : oR I I' J J') : cI L T su sr sa PC PQ g I' J' := by
  obtain ⟨⟨h1, h2⟩, ⟨h3, h4, h5⟩, ⟨⟨m1, m2⟩, m3, m4, m5, m6, m7, m8⟩, ⟨h6, h7⟩, ⟨h8, h9⟩, h10, h11⟩ := h
  have e : ∀ a, ¬ (117 ≤ a ∧ a ≤ 168) → I' a = I a := fun a ha => (hI a ha).1
  have S : ∀ z s, cSz L z s sr g I J → cSz L z s sr g I' J' := fun z s hs => cSz_R hs m7 (fun a ha => hI a (by unfold okS at ha; omega))
  refine ⟨⟨by rw [e 1 (by omega)]; exact h1, fun i hi => by rw [e 2 (by omega)]; exact h2 i hi⟩, ⟨by rw [e 1 (by omega)]; exact h3, by rw [e 1 (by omega)]; exact h4, by rw [e 1 (by omega)]; exact h5⟩, ⟨⟨mkI_I m1 (fun a ha => e a (fun hx => m2 a (by omega) (by omega) ha)), m2⟩, m3, m4, m5, m6, m7, m8⟩, ⟨h6, S _ _ h7⟩, ⟨by rw [e 1 (by omega)]; exact h8, fun i hi => ⟨(h9 i hi).1, S _ _ (h9 i hi).2.1, (h9 i hi).2.2⟩⟩, uT_cg h10 (fun j => by rw [e 116 (by omega)]) (fun j => by rw [e 115 (by omega)]), by rw [e 111 (by omega)]; exact h11⟩
section CC
variable (d L : Nat)
/-- the analysis stands -/
theorem c_rf (g : jG) {T : zT} {su sr PC PQ : Nat} {sa : Nat → Nat} {I : Nat → Nat → Int32} {J : Nat → Nat → Int64} (h : cI L T su sr sa PC PQ g I J) (hw : zWf T) (h1 : PC + 1 ≤ 600000) (h2 : PQ + 3000 ≤ 7302250) : ∃ g' I' J' sr' PC' PQ', cI L T su sr' sa PC' PQ' g' I' J' ∧ PC' ≤ PC + 1 ∧ PQ' ≤ PQ + 3000 ∧ oC I I' ∧ (cZs L g' I' J' 40 (zR T.2.2.2.1).1 ∧ cG (zq T.2.2.2.1) (zR T.2.2.2.1).2 sr' I' ∧ 100 * zq T.2.2.2.1 117 42 ≤ gN L g' sr') ∧ jcall (d + 21) 7 [.ref 39, .ref su] (jGs L g, I, J) = some (none, (jGs L g', I', J')) := by
  by_cases hs : g.2.2.1 39 2 = some su
  · refine ⟨g, I, J, sr, PC, PQ, h, by omega, by omega, fun _ _ _ => rfl, h.2.2.2.1.2.2.1 hs, ?_⟩
    rw [c_Analysis_refresh, e_Analysis_refresh_0, hs, jo_some, if_pos rfl]
  · obtain ⟨⟨t1, t2⟩, ⟨t3, t4, t5⟩, hA, ⟨h6, h7⟩, ⟨h8, h9⟩, h10, h11⟩ := h
    obtain ⟨g', I', J', sr', PC', PQ', B1, p1, p2, F1, Z1, G1, v1⟩ := c_refresh d L g hA h7.1 hw.2.1.2.2.1 hs h1 h2
    obtain ⟨⟨m1, m2⟩, m3, m4, m5, m6, m7, m8⟩ := id hA
    have hC := mkI_C m1
    have st : ∀ a, a < 171 → (a < 15 ∨ (30 ≤ a ∧ a ≤ 38) ∨ 110 < a) → I' a = I a ∧ J' a = J a := fun a ha hx => (F1.1 a (by omega) (m2 a ha (by omega))).1 (by unfold zX; omega)
    have bd : ∀ a, g'.2.2.1 39 2 = some a → a ≤ g'.2.2.2.1 := fun a ha => by rw [B1.2.1.1] at ha; cases ha; exact B1.2.2.2.1.2.1
    have S : ∀ z s, cSz L z s sr g I J → s ≠ su → cSz L z s sr' g' I' J' := fun z s hz hne => ⟨cSu_T hz.1 m1 F1 m5, fun hx => by rw [B1.2.1.1] at hx; cases hx; exact absurd rfl hne, bd⟩
    refine ⟨g', I', J', sr', PC', PQ', ⟨⟨by rw [(st 1 (by omega) (by omega)).1]; exact t1, fun i hi => by rw [(st 2 (by omega) (by omega)).1]; exact t2 i hi⟩, ⟨by rw [(st 1 (by omega) (by omega)).1]; exact t3, by rw [(st 1 (by omega) (by omega)).1]; exact t4, by rw [(st 1 (by omega) (by omega)).1]; exact t5⟩, ⟨B1.1, B1.2.1.2, B1.2.2.1.1, B1.2.2.1.2.1, B1.2.2.1.2.2.1, B1.2.2.1.2.2.2.1, B1.2.2.1.2.2.2.2.2⟩, ⟨(F1.2.2.1 1 2 (by omega) (by omega) (by omega)).trans h6, B1.2.2.2.1, fun _ => ⟨Z1, G1, B1.2.2.1.2.2.2.2.1⟩, bd⟩, ⟨by rw [(st 1 (by omega) (by omega)).1]; exact h8, fun i hi => ⟨(F1.2.2.1 12 i (by omega) (by omega) (by omega)).trans (h9 i hi).1, S _ _ (h9 i hi).2.1 (by have := (h9 i hi).2.2.1; omega), (h9 i hi).2.2⟩⟩, uT_cg h10 (fun j => by rw [(st 116 (by omega) (by omega)).1]) (fun j => by rw [(st 115 (by omega) (by omega)).1]), by rw [(st 111 (by omega) (by omega)).1]; exact h11⟩, p1, p2, fun a y1 y2 => (st a (by omega) (by omega)).1, ⟨Z1, G1, B1.2.2.1.2.2.2.2.1⟩, v1⟩
end CC

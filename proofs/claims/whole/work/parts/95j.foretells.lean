/-! ANALYSIS, THE REFERENCE: foretells -/
set_option maxRecDepth 100000
noncomputable def yPrg (q : Nat → Nat → Nat) (P : Nat → kA) (D W F : Nat) : Option yV × yG := yBlk q P D W F 0 (q 117 35) (some (fun _ => kEp)) (0, 0, fun _ => none)
section MM
variable (d L : Nat) (g : jG) {J : Nat → Nat → Int64}
theorem r_ft_10 {I : Nat → Nat → Int32} (h0 : ∀ y, y < 10240 → I 125 y = 0) : ∀ n, n ≤ 4 → ∃ I', fY 5 I I' ∧ (∀ y, y < 10240 → I' 125 y = 0) ∧ (∀ v, v < n → mR I' (4 + v) kEp) ∧ jval (d + 13) 229 10 [.ref 117, .int (nI 0)] [] (jGs L g, I, J) = jval (d + 13) 229 10 [.ref 117, .int (nI n)] [] (jGs L g, I', J) := by
  intro n
  induction n with
  | zero => intro _; exact ⟨I, fY_r 5 I, h0, fun v hv => by omega, rfl⟩
  | succ n ih =>
    intro hn
    obtain ⟨I1, a1, a2, a3, a4⟩ := ih (by omega)
    obtain ⟨I2, b1, b2, b3⟩ := r_laysText (d + 4) L g (J := J) (I := I1) (k := 4 + n) (from' := 0) (n := 0) (t := fun _ => 0) (by omega) (by omega) (fun i hi => by omega) (fun i hi => by omega) a2
    rw [vText_0] at b2
    refine ⟨I2, fY_t a1 (fY_op b1 (Or.inl ⟨by omega, by omega⟩)), b1.2.2, fun v hv => ?_, ?_⟩
    · by_cases e : v = n
      · subst e; exact b2
      · exact mR_cg (a3 v (by omega)) (fun c hc => b1.2.1 _ (by omega) (by omega))
    · rw [a4, e_TextValuesModel_foretells_10, jif_f (show ¬ (4 : Int32) ≤ nI n from nI_ge (b := 4) (by omega) (by omega)), show (4 : Int32) = nI 4 from rfl, nI_add, show (0 : Int32) = nI 0 from rfl, b3, jcV_some, e_TextValuesModel_foretells_24, nI_1]
theorem r_ft_54 {A : Nat} (hA : A ≤ 40) : ∀ n x (I : Nat → Nat → Int32), n + x = A → I 117 42 = nI A → (∀ j, j < x → I 153 j = -1) → ∃ I', (∀ a j, a ≠ 153 → I' a j = I a j) ∧ (∀ j, j < A → I' 153 j = -1) ∧ jval (d + 13) 229 54 [.ref 117, .int (nI x)] [] (jGs L g, I, J) = jval (d + 13) 229 77 [.ref 117, .int (nI 0)] [] (jGs L g, I', J) := by
  intro n
  induction n with
  | zero =>
    intro x I hn h42 h
    have e : x = A := by omega
    subst e
    refine ⟨I, fun _ _ _ => rfl, h, ?_⟩
    rw [e_TextValuesModel_foretells_54, h42, jif_t (show nI x ≤ nI x from Int32.le_refl _), show (0 : Int32) = nI 0 from rfl]
  | succ n ih =>
    intro x I hn h42 h
    obtain ⟨I', a1, a2, a3⟩ := ih (x + 1) (ju I 153 x (-1)) (by omega) (by rw [zu_a (by omega)]; exact h42) (fun j hj => by
      by_cases e : j = x
      · rw [e, zu_at]
      · rw [zu_k e]; exact h j (by omega))
    refine ⟨I', fun a j ha => by rw [a1 a j ha, zu_a ha], a2, ?_⟩
    rw [e_TextValuesModel_foretells_54, h42, jif_f (nI_ge (by omega) (by omega)), jin_nI (by omega) (by omega), cond_true, nI_c (by omega), nI_1, a3]
theorem r_foretells {q : Nat → Nat → Nat} {P : Nat → kA} {D W F L0 B0 lo : Nat} {x : Option Nat} {g0 : jG} {I0 I : Nat → Nat → Int32} (hn : nd L0 q g0 I0 B0 F 0 lo x 0 (q 117 35)) (hB : rB q P D W I) (h60 : I 117 60 = 0) : ∃ I', (∀ a j, ¬ yX a j → ¬ (a = 117 ∧ j = 60) → I' a j = I a j) ∧ (∀ j, j < 128 → I' 119 j = I 119 j) ∧ rB q P D W I' ∧ I' 117 60 = 1 ∧ rSt I' 48 (yPrg q P D W F).1 ∧ rG q (yPrg q P D W F).2 0 0 I' ∧ jcall (d + 14) 229 [.ref 117] (jGs L g, I, J) = some (none, (jGs L g, I', J)) := by
  have b35 := hB.2.2.2.2.2.2.2.2.2.1
  have b42 := hB.2.2.2.2.2.2.2.2.2.2
  obtain ⟨I1, a1, a2, a3, a4⟩ := r_ft_10 d L g (J := J) (I := I) hB.2.2.1 4 (by omega)
  have B1 := rB_f hB a1 a2
  generalize hI2 : ju (ju (ju (ju I1 151 4 (0 : Int32)) 117 55 (0 : Int32)) 117 63 (0 : Int32)) 117 64 (0 : Int32) = I2 at *
  have F2 : fY 0 I1 I2 := by
    rw [← hI2]
    refine ⟨fun a j hx => ?_, fun j hj => ?_, fun j y1 y2 => by omega, fun j hj => by omega⟩
    · unfold yX at hx
      rw [ju_ne (by omega), ju_ne (by omega), ju_ne (by omega), ju_ne (by omega)]
    · rw [zu_a (by omega), zu_a (by omega), zu_a (by omega), zu_a (by omega)]
  have o2 : ∀ a j, a ≠ 151 → a ≠ 117 → I2 a j = I1 a j := fun a j h1 h2 => by rw [← hI2, zu_a h2, zu_a h2, zu_a h2, zu_a h1]
  obtain ⟨I3, c1, c2, c3⟩ := r_ft_54 d L g (J := J) (A := q 117 42) (by omega) (q 117 42) 0 I2 (by omega) ((rQ_f B1.1 F2.1).1.2.2.1) (fun j hj => by omega)
  have F3 : fY 0 I2 I3 := ⟨fun a j hx => c1 a j (by unfold yX at hx; omega), fun j _ => c1 _ _ (by omega), fun j y1 y2 => by omega, fun j hj => by omega⟩
  have F13 := fY_t (fY_w a1 (show 0 ≤ 5 by omega)) (fY_t F2 F3)
  have B3 := rB_f hB F13 (fun y hy => by rw [c1 _ _ (by omega), o2 _ _ (by omega) (by omega)]; exact a2 y hy)
  have S3 : rSt I3 4 (some (fun _ => kEp)) := by
    refine Or.inr ⟨_, rfl, ?_, fun v hv => ⟨mR_cg (a3 v hv) (fun c hc => ?_), kEp_V⟩⟩
    · rw [c1 _ _ (by omega), ← hI2, zu_a (by omega), zu_a (by omega), zu_a (by omega), zu_at]; rfl
    · rw [c1 _ _ (by omega), o2 _ _ (by omega) (by omega)]
  have G3 : rG q (0, 0, fun _ => none) 0 0 I3 := by
    refine ⟨?_, ?_, by show 0 ≤ 25; omega, by omega, fun j hj => Or.inl ⟨rfl, c2 j hj⟩⟩
    · rw [c1 _ _ (by omega), ← hI2, zu_k (by omega), zu_at]; rfl
    · rw [c1 _ _ (by omega), ← hI2, zu_at]; rfl
  have d3 : I3 117 55 = nI 0 := by rw [c1 _ _ (by omega), ← hI2, zu_k (by omega), zu_k (by omega), zu_at]; rfl
  obtain ⟨I4, f4, B4, s4, g4, d4, v4⟩ := r_ana d L g (J := J) (P := P) (D := D) (W := W) F 0 lo x 0 (q 117 35) _ _ 0 0 I3 hn (by omega) (Nat.le_refl _) B3 S3 G3 d3
  obtain ⟨I5, e1, e2, e3, e4, e5⟩ := r_copiesAll (d + 11) L g (J := J) (I := I4) (a := 4) (b := 48) (by omega) (by omega) (by omega)
  have F5 := fY_cp (k := 0) e1 e2 e3 (Or.inr (by omega))
  have FF := fY_t F13 (fY_t f4 F5)
  have B5 := rB_f B4 F5 (fun y hy => by rw [e1 _ _ (by omega) (by omega)]; exact B4.2.2.1 y hy)
  refine ⟨ju I5 117 60 1, fun a j hx hy => ?_, fun j hj => ?_, ?_, zu_at _ _ _ _, ?_, ?_, ?_⟩
  · rw [ju_ne (by omega)]; exact FF.1 a j hx
  · rw [zu_a (by omega)]; exact FF.2.1 j (Or.inl hj)
  · obtain ⟨k1, k2, k3, k4, k5, k6, k7, k8⟩ := B5
    refine ⟨⟨?_, ?_, ?_, ?_, ?_⟩, fun i hi => ⟨mR_cg (k2 i hi).1 (fun c hc => zu_a (by omega)), (k2 i hi).2⟩, fun y hy => by rw [zu_a (by omega)]; exact k3 y hy, by rw [zu_k (by omega)]; exact k4, by rw [zu_k (by omega)]; exact k5, k6, k7, k8⟩
    · rw [zu_k (by omega), zu_k (by omega), zu_k (by omega), zu_k (by omega), zu_k (by omega)]; exact k1.1
    · intro k hk; rw [zu_a (by omega), zu_a (by omega), zu_a (by omega), zu_a (by omega), zu_a (by omega)]; exact k1.2.1 k hk
    · intro k hk; rw [zu_a (by omega)]; exact k1.2.2.1 k hk
    · intro k hk; rw [zu_a (by omega), zu_a (by omega), zu_a (by omega)]; exact k1.2.2.2.1 k hk
    · intro k hk; rw [zu_a (by omega)]; exact k1.2.2.2.2 k hk
  · exact rSt_cg (e4 _ s4) (zu_a (by omega)) (fun v hv c hc => zu_a (by omega))
  · have hg := rG_e g4 (eG_cp e1)
    exact ⟨by rw [zu_k (by omega)]; exact hg.1, by rw [zu_k (by omega)]; exact hg.2.1, hg.2.2.1, hg.2.2.2.1, fun j hj => rRa_cg (hg.2.2.2.2 j hj) (zu_a (by omega)) (fun x _ => zu_a (by omega))⟩
  · rw [c_TextValuesModel_foretells, e_TextValuesModel_foretells_0, jif_t h60, show (0 : Int32) = nI 0 from rfl, a4, e_TextValuesModel_foretells_10, jif_t (by decide), show jin (4 : Int32) 56 = true from jin_nI (n := 4) (by omega) (by omega), cond_true, show (4 : Int32).toNatClampNeg = 4 from rfl, hI2, show (0 : Int32) = nI 0 from rfl, c3, v4, e_TextValuesModel_foretells_77, B4.1.1.1, jif_t (Int32.le_refl _), show (4 : Int32) = nI 4 from rfl, show (48 : Int32) = nI 48 from rfl, e5, jcV_some, e_TextValuesModel_foretells_101, jif_t (Or.inr rfl)]
end MM

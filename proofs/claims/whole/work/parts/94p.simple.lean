/-! THE REFERENCE: steps that come; a variable is set -/
set_option maxRecDepth 100000
theorem qCome_35 (q : Nat → Nat → Nat) (s a b c : Nat) : qCome q s a b c 117 35 = q 117 35 + 1 := by unfold qCome; rw [zu_at]
theorem qCome_r {q : Nat → Nat → Nat} {s a b c a' k : Nat} (h : ¬ (138 ≤ a' ∧ a' ≤ 142)) (h' : ¬ (a' = 117 ∧ k = 35)) : qCome q s a b c a' k = q a' k := by unfold qCome; rw [ju_ne (by omega), ju_ne (by omega), ju_ne (by omega), ju_ne (by omega), ju_ne (by omega), ju_ne (by omega)]
theorem rQ_come {q : Nat → Nat → Nat} {s a b c : Nat} {x : Int32} {I : Nat → Nat → Int32} (h : rQ q I) : rQ (qCome q s a b c) (ju (ju (ju (ju (ju (ju I 138 (q 117 35) (nI s)) 139 (q 117 35) (nI a)) 140 (q 117 35) (nI b)) 141 (q 117 35) (nI c)) 142 (q 117 35) x) 117 35 (nI (q 117 35 + 1))) := by
  obtain ⟨⟨h1, h2, h3, h4, h5⟩, h6, h7, h8, h9⟩ := h
  have r' : ∀ a' k, ¬ (138 ≤ a' ∧ a' ≤ 142) → ¬ (a' = 117 ∧ k = 35) → (ju (ju (ju (ju (ju (ju I 138 (q 117 35) (nI s)) 139 (q 117 35) (nI a)) 140 (q 117 35) (nI b)) 141 (q 117 35) (nI c)) 142 (q 117 35) x) 117 35 (nI (q 117 35 + 1))) a' k = I a' k := fun a' k y1 y2 => by rw [ju_ne (by omega), ju_ne (by omega), ju_ne (by omega), ju_ne (by omega), ju_ne (by omega), ju_ne (by omega)]
  refine ⟨⟨?_, ?_, ?_, ?_, ?_⟩, fun k hk => ?_, fun k hk => ?_, fun k hk => ?_, fun k hk => ?_⟩
  · rw [qCome_35, zu_at]
  · rw [qCome_r (by omega) (by omega), r' _ _ (by omega) (by omega)]; exact h2
  · rw [qCome_r (by omega) (by omega), r' _ _ (by omega) (by omega)]; exact h3
  · rw [qCome_r (by omega) (by omega), r' _ _ (by omega) (by omega)]; exact h4
  · rw [qCome_r (by omega) (by omega), r' _ _ (by omega) (by omega)]; exact h5
  · rw [qCome_35] at hk
    unfold qCome
    by_cases hkn : k = q 117 35
    · rw [hkn]
      simp (disch := omega) only [zu_a, zu_at]
      exact ⟨trivial, trivial, trivial, trivial, fun m hm => absurd hm (by omega)⟩
    · simp (disch := omega) only [zu_a, zu_k]
      exact h6 k (by omega)
  · rw [qCome_r (by omega) (by omega)] at hk
    rw [qCome_r (by omega) (by omega), r' _ _ (by omega) (by omega)]; exact h7 k hk
  · rw [qCome_r (by omega) (by omega)] at hk
    rw [qCome_r (by omega) (by omega), qCome_r (by omega) (by omega), qCome_r (by omega) (by omega), r' _ _ (by omega) (by omega), r' _ _ (by omega) (by omega), r' _ _ (by omega) (by omega)]; exact h8 k hk
  · rw [qCome_r (by omega) (by omega)] at hk
    rw [qCome_r (by omega) (by omega), r' _ _ (by omega) (by omega)]; exact h9 k hk
section MM
variable (d L : Nat) (g : jG) {J : Nat → Nat → Int64}
theorem r_comes {c : Nat → Nat} {N i : Nat} {fl : Bool} {q : Nat → Nat → Nat} {s a b e : Nat} {I : Nat → Nat → Int32} (h : rQ q I) (hl : lR c N i fl I) (hp : q 117 35 < 130) : ∃ I', fQ0 I I' ∧ lR c N i fl I' ∧ rQ (qCome q s a b e) I' ∧ (∀ a k, a ≠ 117 → ¬ (138 ≤ a ∧ a ≤ 142) → I' a k = I a k) ∧ I' 117 55 = I 117 55 ∧ jcall (d + 1) 202 [.ref 117, .int (nI s), .int (nI a), .int (nI b), .int (nI e)] (jGs L g, I, J) = some (some (.int (nI (q 117 35))), (jGs L g, I', J)) := by
  have h1 := h.1.1
  refine ⟨_, fun a k hx => ?_, lR_p hl (fun a k hak => ?_), rQ_come (x := -1) h, fun a k y1 y2 => ?_, ?_, ?_⟩
  · unfold qX at hx; rw [ju_ne (by omega), ju_ne (by omega), ju_ne (by omega), ju_ne (by omega), ju_ne (by omega), ju_ne (by omega)]
  · rw [ju_ne (by omega), ju_ne (by omega), ju_ne (by omega), ju_ne (by omega), ju_ne (by omega), ju_ne (by omega)]
  · rw [ju_ne (by omega), ju_ne (by omega), ju_ne (by omega), ju_ne (by omega), ju_ne (by omega), ju_ne (by omega)]
  · rw [ju_ne (by omega), ju_ne (by omega), ju_ne (by omega), ju_ne (by omega), ju_ne (by omega), ju_ne (by omega)]
  · rw [c_TextValuesModel_comes, e_TextValuesModel_comes_0, h1, jin_nI (by omega) (by omega), nI_c (by omega), cond_true, cond_true, cond_true, cond_true, cond_true, nI_1, nI_pred]
theorem r_comes_f {c : Nat → Nat} {N i : Nat} {fl : Bool} {s p a t : Nat} {w x y z : Int32} {I : Nat → Nat → Int32} (h : zC s p a t I) (hl : lR c N i fl I) (hp : s < 130) : ∃ I', fQ0 I I' ∧ lR c N i fl I' ∧ zC (s + 1) p a t I' ∧ (∀ a k, a ≠ 117 → ¬ (138 ≤ a ∧ a ≤ 142) → I' a k = I a k) ∧ I' 117 55 = I 117 55 ∧ jcall (d + 1) 202 [.ref 117, .int w, .int x, .int y, .int z] (jGs L g, I, J) = some (some (.int (nI s)), (jGs L g, I', J)) := by
  obtain ⟨h1, h2, h3, h4⟩ := h
  refine ⟨ju (ju (ju (ju (ju (ju I 138 s w) 139 s x) 140 s y) 141 s z) 142 s (-1)) 117 35 (nI (s + 1)), fun a k hx => ?_, lR_p hl (fun a k hak => ?_), ⟨?_, ?_, ?_, ?_⟩, fun a k y1 y2 => ?_, ?_, ?_⟩
  · unfold qX at hx; rw [ju_ne (by omega), ju_ne (by omega), ju_ne (by omega), ju_ne (by omega), ju_ne (by omega), ju_ne (by omega)]
  · rw [ju_ne (by omega), ju_ne (by omega), ju_ne (by omega), ju_ne (by omega), ju_ne (by omega), ju_ne (by omega)]
  · rw [zu_at]
  · rw [ju_ne (by omega), ju_ne (by omega), ju_ne (by omega), ju_ne (by omega), ju_ne (by omega), ju_ne (by omega)]; exact h2
  · rw [ju_ne (by omega), ju_ne (by omega), ju_ne (by omega), ju_ne (by omega), ju_ne (by omega), ju_ne (by omega)]; exact h3
  · rw [ju_ne (by omega), ju_ne (by omega), ju_ne (by omega), ju_ne (by omega), ju_ne (by omega), ju_ne (by omega)]; exact h4
  · rw [ju_ne (by omega), ju_ne (by omega), ju_ne (by omega), ju_ne (by omega), ju_ne (by omega), ju_ne (by omega)]
  · rw [ju_ne (by omega), ju_ne (by omega), ju_ne (by omega), ju_ne (by omega), ju_ne (by omega), ju_ne (by omega)]
  · rw [c_TextValuesModel_comes, e_TextValuesModel_comes_0, h1, jin_nI (by omega) (by omega), nI_c (by omega), cond_true, cond_true, cond_true, cond_true, cond_true, nI_1, nI_pred]
theorem r_makesTold {c : Nat → Nat} {N i v : Nat} {q : Nat → Nat → Nat} {I : Nat → Nat → Int32} (hN : N ≤ 120) (hc : ∀ i, i < N → c i < 128) (hi : i ≤ N) (h : lR c N i false I) (hq : rQ q I) (ht : q 117 48 < i) (h44 : q 117 44 < i) (h35 : q 117 35 < 125) : (∃ i' q' I', pPts c N (q 117 44) (N + 1) i q = (true, i', q') ∧ fQ0 I I' ∧ lR c N i' false I' ∧ rQ (qCome q' 1 (q 117 44) (q' 117 44) v) I' ∧ i < i' ∧ i' ≤ N ∧ q' 117 48 < i' ∧ q' 117 44 < i' ∧ (∀ a k, a ≠ 38 → a ≠ 35 → a ≠ 120 → ¬ (144 ≤ a ∧ a ≤ 146) → ¬ (a = 117 ∧ (k = 48 ∨ k = 44)) → q' a k = q a k) ∧ jcall (d + 5) 205 [.ref 117, .int (nI v)] (jGs L g, I, J) = some (none, (jGs L g, I', J))) ∨ (∃ p q' I' pm t, pPts c N (q 117 44) (N + 1) i q = (false, p, q') ∧ fQ0 I I' ∧ lR c N p true I' ∧ p ≤ N ∧ pm ≤ 120 ∧ zC (q 117 35 + 1) pm (q 117 42) t I' ∧ jcall (d + 5) 205 [.ref 117, .int (nI v)] (jGs L g, I, J) = some (none, (jGs L g, I', J))) := by
  have e44 := hq.1.2.2.2.1
  have start : jcall (d + 5) 205 [.ref 117, .int (nI v)] (jGs L g, I, J) = jval (d + 4) 205 7 [.ref 117, .int (nI v), .int (nI (q 117 44)), .int (nI 1), jjunk] [] (jGs L g, I, J) := by
    rw [c_TextValuesModel_makesTold, e_TextValuesModel_makesTold_0, e44]
    rfl
  rw [start]
  rcases r_mt_7 d L g (J := J) (fr := q 117 44) (x1 := nI v) hN hc (N + 1) i q I (by omega) hi h hq ht h44 (by omega) with ⟨i', q', I', z1, z2, z3, z4, z5, z6, z7, z8, z9, z10⟩ | ⟨p, q', I', pm, t, z1, z2, z3, z4, z5, z6, z7⟩
  · have g35 : q' 117 35 = q 117 35 := z9 _ _ (by omega) (by omega) (by omega) (by omega) (by omega)
    obtain ⟨I2, b1, b2, b3, -, -, b4⟩ := r_comes (d + 3) L g (J := J) (s := 1) (a := q 117 44) (b := q' 117 44) (e := v) z4 z3 (by omega)
    refine Or.inl ⟨i', q', I2, z1, fQ0_t z2 b1, b2, b3, z5, z6, z7, z8, z9, ?_⟩
    rw [z10, e_TextValuesModel_makesTold_104, z4.1.2.2.2.1, show (1 : Int32) = nI 1 from rfl, b4, jcI_some, e_TextValuesModel_makesTold_116]
  · obtain ⟨I2, b1, b2, b3, -, -, b4⟩ := r_comes_f (d + 3) L g (J := J) (w := 1) (x := nI (q 117 44)) (y := I' 117 44) (z := nI v) z6 z3 (by omega)
    refine Or.inr ⟨p, q', I2, pm, t, z1, fQ0_t z2 b1, b2, z4, z5, b3, ?_⟩
    rw [z7, e_TextValuesModel_makesTold_104, b4, jcI_some, e_TextValuesModel_makesTold_116]
end MM

/-! THE REFERENCE: begins, all of it -/
set_option maxRecDepth 100000
section MM
variable (d L : Nat) (g : jG) {J : Nat → Nat → Int64}
theorem rQ_o {q : Nat → Nat → Nat} {I I' : Nat → Nat → Int32} (h : rQ q I) (he : ∀ a j, a ≠ 149 → a ≠ 150 → ¬ (a = 117 ∧ (j = 53 ∨ j = 54 ∨ j = 55)) → I' a j = I a j) : rQ q I' := by
  obtain ⟨⟨h1, h2, h3, h4, h5⟩, h6, h7, h8, h9⟩ := h
  refine ⟨⟨?_, ?_, ?_, ?_, ?_⟩, fun k hk => ?_, fun k hk => ?_, fun k hk => ?_, fun k hk => ?_⟩
  · rw [he _ _ (by omega) (by omega) (by omega)]; exact h1
  · rw [he _ _ (by omega) (by omega) (by omega)]; exact h2
  · rw [he _ _ (by omega) (by omega) (by omega)]; exact h3
  · rw [he _ _ (by omega) (by omega) (by omega)]; exact h4
  · rw [he _ _ (by omega) (by omega) (by omega)]; exact h5
  · rw [he _ _ (by omega) (by omega) (by omega), he _ _ (by omega) (by omega) (by omega), he _ _ (by omega) (by omega) (by omega), he _ _ (by omega) (by omega) (by omega), he _ _ (by omega) (by omega) (by omega)]; exact h6 k hk
  · rw [he _ _ (by omega) (by omega) (by omega)]; exact h7 k hk
  · rw [he _ _ (by omega) (by omega) (by omega), he _ _ (by omega) (by omega) (by omega), he _ _ (by omega) (by omega) (by omega)]; exact h8 k hk
  · rw [he _ _ (by omega) (by omega) (by omega)]; exact h9 k hk
/-- from the step on: it opens, or it is a fault -/
theorem r_bg_86 {c : Nat → Nat} {N i k s a b : Nat} {q : Nat → Nat → Nat} {I : Nat → Nat → Int32} (hN : N ≤ 120) (hc : ∀ i, i < N → c i < 128) (hi : i ≤ N) (h : lR c N i false I) (hq : rQ q I) (h55 : I 117 55 = nI k) (hk : k ≤ 5) (h35 : q 117 35 < 125) : (k < 5 ∧ pCh c N i = 123 ∧ ∃ I', fQ1 I I' ∧ lR c N (pSk c N i + 1) false I' ∧ rQ (qCome q s a b 0) I' ∧ I' 117 55 = nI (k + 1) ∧ I' 149 k = nI (q 117 35) ∧ I' 150 k = nI 0 ∧ (∀ j, j ≠ k → I' 149 j = I 149 j ∧ I' 150 j = I 150 j) ∧ jval (d + 3) 210 86 [.ref 117, jjunk, jjunk, .int (nI a), .int (nI b), jjunk] [.int (nI s)] (jGs L g, I, J) = some (none, (jGs L g, I', J))) ∨ ((k = 5 ∨ pCh c N i ≠ 123) ∧ ∃ I', fQ1 I I' ∧ lR c N (pSk c N i) true I' ∧ zC (q 117 35 + 1) (q 117 44) (q 117 42) (q 117 48) I' ∧ jval (d + 3) 210 86 [.ref 117, jjunk, jjunk, .int (nI a), .int (nI b), jjunk] [.int (nI s)] (jGs L g, I, J) = some (none, (jGs L g, I', J))) := by
  obtain ⟨I1, a1, a2, a3, a4, a5, a6⟩ := r_comes (d + 2) L g (J := J) (s := s) (a := a) (b := b) (e := 0) hq h (by omega)
  have h551 : I1 117 55 = nI k := a5.trans h55
  have e86 : jval (d + 3) 210 86 [.ref 117, jjunk, jjunk, .int (nI a), .int (nI b), jjunk] [.int (nI s)] (jGs L g, I, J) = jval (d + 3) 210 99 [jjunk, jjunk, jjunk, jjunk, jjunk, jjunk] [.int (nI (q 117 35)), .ref 117] (jGs L g, I1, J) := by
    rw [e_TextValuesModel_begins_86, show (0 : Int32) = nI 0 from rfl, a6, jcI_some]
  rw [e86, e_TextValuesModel_begins_99]
  by_cases hb : k < 5 ∧ pCh c N i = 123
  · obtain ⟨I2, b1, b2, b3, b4, b5, b6, b7⟩ := r_opens_t d L g (J := J) (s := q 117 35) (b := 0) hN hc hi a2 h551 hb.1 hb.2
    refine Or.inl ⟨hb.1, hb.2, I2, fQ1_t (fQ1_0 a1) (fun a j hx => b1 a j (by unfold qX1 qX at hx; omega) (by unfold qX1 qX at hx; omega) (by unfold qX1 qX at hx; omega)), b2, rQ_o a3 b1, b3, b4, b5, fun j hj => ⟨(b6 j hj).1.trans (a4 _ _ (by omega) (by omega)), (b6 j hj).2.trans (a4 _ _ (by omega) (by omega))⟩, ?_⟩
    rw [show (0 : Int32) = nI 0 from rfl, b7, jcV_some, e_TextValuesModel_begins_103]
  · have hb' : k = 5 ∨ pCh c N i ≠ 123 := by
      by_cases h5 : k = 5
      · exact Or.inl h5
      · exact Or.inr (fun e => hb ⟨by omega, e⟩)
    obtain ⟨I2, b1, b2, b3⟩ := r_opens_n d L g (J := J) (x := nI (q 117 35)) (y := 0) hN hc hi a2 h551 hk hb'
    have hz := rQ_z a3
    rw [qCome_35, qCome_r (by omega) (by omega), qCome_r (by omega) (by omega), qCome_r (by omega) (by omega)] at hz
    refine Or.inr ⟨hb', I2, fQ1_0 (fQ0_t a1 (fQ0_e b1)), b2, zC_e hz b1, ?_⟩
    rw [b3, jcV_some, e_TextValuesModel_begins_103]
end MM

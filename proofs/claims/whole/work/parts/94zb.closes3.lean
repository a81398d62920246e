/-! THE REFERENCE: closes, to the second part -/
set_option maxRecDepth 100000
section MM
variable (d L : Nat) (g : jG) {J : Nat → Nat → Int64}
theorem r_closes_sec {c : Nat → Nat} {N i k s so : Nat} {q : Nat → Nat → Nat} {I : Nat → Nat → Int32} (hN : N ≤ 120) (hc : ∀ i, i < N → c i < 128) (hi : i < N) (h : lR c N i false I) (hq : rQ q I) (hsk : pSk c N i = i) (hpc : pCh c N i = 125) (h55 : I 117 55 = nI (k + 1)) (hk : k < 5) (hs : s < q 117 35) (h35 : q 117 35 < 125) (h149 : I 149 k = nI s) (h150 : I 150 k = nI 0) (hso : so = q 138 s ∧ (so = 4 ∨ so = 5)) : (pCh c N (i + 1) = 123 ∧ ∃ I', fQ1 I I' ∧ lR c N (pSk c N (i + 1) + 1) false I' ∧ rQ (qSec q s so) I' ∧ I' 117 55 = nI (k + 1) ∧ I' 149 k = nI (q 117 35) ∧ I' 150 k = nI 1 ∧ (∀ j, j ≠ k → I' 149 j = I 149 j ∧ I' 150 j = I 150 j) ∧ jcall (d + 4) 209 [.ref 117] (jGs L g, I, J) = some (none, (jGs L g, I', J))) ∨ (pCh c N (i + 1) ≠ 123 ∧ ∃ I', fQ1 I I' ∧ lR c N (pSk c N (i + 1)) true I' ∧ jcall (d + 4) 209 [.ref 117] (jGs L g, I, J) = some (none, (jGs L g, I', J))) := by
  obtain ⟨I1, a1, a2, a3, a4, a5⟩ := r_cl_55 (d + 1) L g (J := J) (b := 0) hN hc (by omega) h hq hsk hpc h55 hk hs h35 h149 h150 (by omega)
  rw [if_neg (by omega), ← hso.1] at a5
  obtain ⟨-, y2, y3, -, -⟩ := a3.2.1 s hs
  obtain ⟨I2, b1, b2, b3, b4, b5, b6⟩ := r_comes (d + 2) L g (J := J) (s := 8) (a := q 139 s) (b := q 140 s) (e := so) a3 a2 (by omega)
  have hq3 := rQ_mate (s := s) (m := q 117 35) b3
  have e150 : I1 150 k = nI 0 := by rw [a1 _ _ (by omega)]; exact h150
  have l3 : lR c N (i + 1) false (ju I2 142 s (nI (q 117 35))) := lR_p b2 (fun a j haj => ju_ne (by omega))
  have k3 : ju I2 142 s (nI (q 117 35)) 117 55 = nI k := by rw [zu_a (by omega), b5]; exact a4
  have f3 : fQ1 I (ju I2 142 s (nI (q 117 35))) := fQ1_t (fQ1_t (fun a j hx => a1 a j (by unfold qX1 qX at hx; omega)) (fQ1_0 b1)) (fun a j hx => by unfold qX1 qX at hx; rw [ju_ne (by omega)])
  have e97 : jcall (d + 4) 209 [.ref 117] (jGs L g, I, J) = jcV (jcall (d + 3) 208 [.ref 117, .int (nI (q 117 35)), .int (nI 1)] (jGs L g, ju I2 142 s (nI (q 117 35)), J)) (fun S1 => jval (d + 3) 209 111 [jjunk, jjunk, jjunk, jjunk] [] S1) := by
    have e78 : jval (d + 3) 209 55 [.ref 117, .int (nI s), jjunk, jjunk] [.int (nI so)] (jGs L g, I1, J) = jval (d + 3) 209 78 [.ref 117, .int (nI s), .int (nI so), jjunk] [] (jGs L g, I1, J) := by
      rw [e_TextValuesModel_closes_55, a4, jin_nI (by omega) (by omega), nI_c (by omega), cond_true, e150, jif_t (by decide)]
      rcases hso.2 with e | e <;> rw [e]
      · rw [jif_t (by decide)]
      · rw [jif_f (by decide), jif_t (by decide)]
    rw [a5, e78, e_TextValuesModel_closes_78, jin_nI (by omega) (by omega), nI_c (by omega), cond_true, cond_true, y2, y3, show (8 : Int32) = nI 8 from rfl, b6, jcI_some, e_TextValuesModel_closes_97, jin_nI (by omega) (by omega), nI_c (by omega), cond_true]
    rfl
  rw [e97]
  by_cases h123 : pCh c N (i + 1) = 123
  · obtain ⟨I4, g1, g2, g3, g4, g5, g6, g7⟩ := r_opens_t d L g (J := J) (s := q 117 35) (b := 1) hN hc (show i + 1 ≤ N by omega) l3 k3 hk h123
    refine Or.inl ⟨h123, I4, fQ1_t f3 (fun a j hx => g1 a j (by unfold qX1 qX at hx; omega) (by unfold qX1 qX at hx; omega) (by unfold qX1 qX at hx; omega)), g2, rQ_o hq3 g1, g3, g4, g5, fun j hj => ⟨?_, ?_⟩, ?_⟩
    · rw [(g6 j hj).1, zu_a (by omega), b4 _ _ (by omega) (by omega), a1 _ _ (by omega)]
    · rw [(g6 j hj).2, zu_a (by omega), b4 _ _ (by omega) (by omega), a1 _ _ (by omega)]
    · rw [g7, jcV_some, e_TextValuesModel_closes_111, e_TextValuesModel_closes_148]
  · obtain ⟨I4, g1, g2, g3⟩ := r_opens_n d L g (J := J) (x := nI (q 117 35)) (y := nI 1) hN hc (show i + 1 ≤ N by omega) l3 k3 (by omega) (Or.inr h123)
    refine Or.inr ⟨h123, I4, fQ1_t f3 (fQ1_e g1), g2, ?_⟩
    rw [g3, jcV_some, e_TextValuesModel_closes_111, e_TextValuesModel_closes_148]
end MM

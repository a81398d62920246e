/-! THE REFERENCE: closes, to the end of the braces -/
set_option maxRecDepth 100000
section MM
variable (d L : Nat) (g : jG) {J : Nat → Nat → Int64}
theorem r_cl_55 {c : Nat → Nat} {N i k s b : Nat} {q : Nat → Nat → Nat} {I : Nat → Nat → Int32} (hN : N ≤ 120) (hc : ∀ i, i < N → c i < 128) (hi : i ≤ N) (h : lR c N i false I) (hq : rQ q I) (hsk : pSk c N i = i) (hpc : pCh c N i = 125) (h55 : I 117 55 = nI (k + 1)) (hk : k < 5) (hs : s < q 117 35) (h35 : q 117 35 < 125) (h149 : I 149 k = nI s) (h150 : I 150 k = nI b) (hb : b < 2) : ∃ I', (∀ a j, ¬ (a = 117 ∧ (j = 53 ∨ j = 54 ∨ j = 55)) → I' a j = I a j) ∧ lR c N (i + 1) false I' ∧ rQ q I' ∧ I' 117 55 = nI k ∧ jcall (d + 3) 209 [.ref 117] (jGs L g, I, J) = jval (d + 2) 209 55 [.ref 117, .int (nI s), jjunk, jjunk] [.int (nI (if b = 1 then q 141 s else q 138 s))] (jGs L g, I', J) := by
  obtain ⟨I1, a1, a2, a3⟩ := r_takes_t d L g (J := J) hN hc hi (show 125 < 128 by omega) h hpc
  rw [hsk] at a2
  have hq1 := rQ_e hq a1
  have e1 : I1 117 55 = nI (k + 1) := by rw [a1 _ _ (by omega)]; exact h55
  have e2 : I1 149 k = nI s := by rw [a1 _ _ (by omega)]; exact h149
  have e3 : I1 150 k = nI b := by rw [a1 _ _ (by omega)]; exact h150
  obtain ⟨y1, -, -, y4, -⟩ := hq1.2.1 s hs
  refine ⟨ju I1 117 55 (nI k), fun a j hx => by rw [ju_ne (by omega), a1 a j (by omega)], lR_p a2 (fun a j haj => ju_ne (by omega)), rQ_o hq1 (fun a j _ _ hx => ju_ne (by omega)), zu_at _ _ _ _, ?_⟩
  rw [c_TextValuesModel_closes, e_TextValuesModel_closes_0, show (125 : Int32) = nI 125 from rfl, a3, jcI_some, e_TextValuesModel_closes_6, e1, nI_pred, jin_nI (by omega) (by omega), nI_c (by omega), cond_true, cond_true, e2, e3, jin_nI (by omega) (by omega), nI_c (by omega), cond_true, cond_true, y1, y4]
  by_cases h1 : b = 1
  · rw [jif_t (by rw [h1]; rfl), if_pos h1]
  · rw [jif_f (show ¬ nI b = (1 : Int32) from fun e => h1 ((nI_eq (b := 1) (by omega) (by omega)).mp e)), if_neg h1]
theorem r_closes_end {c : Nat → Nat} {N i k s b so : Nat} {q : Nat → Nat → Nat} {I : Nat → Nat → Int32} (hN : N ≤ 120) (hc : ∀ i, i < N → c i < 128) (hi : i ≤ N) (h : lR c N i false I) (hq : rQ q I) (hsk : pSk c N i = i) (hpc : pCh c N i = 125) (h55 : I 117 55 = nI (k + 1)) (hk : k < 5) (hs : s < q 117 35) (h35 : q 117 35 < 125) (h149 : I 149 k = nI s) (h150 : I 150 k = nI b) (hso : (b = 1 ∧ so = q 141 s) ∨ (b = 0 ∧ so = q 138 s ∧ (so = 6 ∨ so = 7))) : ∃ I', fQ1 I I' ∧ lR c N (i + 1) false I' ∧ rQ (qEnd q s so) I' ∧ I' 117 55 = nI k ∧ (∀ j, I' 149 j = I 149 j ∧ I' 150 j = I 150 j) ∧ jcall (d + 3) 209 [.ref 117] (jGs L g, I, J) = some (none, (jGs L g, I', J)) := by
  obtain ⟨I1, a1, a2, a3, a4, a5⟩ := r_cl_55 d L g (J := J) (b := b) hN hc hi h hq hsk hpc h55 hk hs h35 h149 h150 (by omega)
  have hv : (if b = 1 then q 141 s else q 138 s) = so := by
    rcases hso with ⟨e1, e2⟩ | ⟨e1, e2, -⟩
    · rw [if_pos e1, e2]
    · rw [if_neg (by omega), e2]
  rw [hv] at a5
  obtain ⟨-, y2, y3, -, -⟩ := a3.2.1 s hs
  obtain ⟨I2, b1, b2, b3, b4, b5, b6⟩ := r_comes (d + 1) L g (J := J) (s := 9) (a := q 139 s) (b := q 140 s) (e := so) a3 a2 (by omega)
  have hq4 := rQ_mate (s := q 117 35) (m := s) (rQ_mate (s := s) (m := q 117 35) b3)
  have e150 : I1 150 k = nI b := by rw [a1 _ _ (by omega)]; exact h150
  have e55 : jval (d + 2) 209 55 [.ref 117, .int (nI s), jjunk, jjunk] [.int (nI so)] (jGs L g, I1, J) = jval (d + 2) 209 114 [.ref 117, .int (nI s), .int (nI so), jjunk] [] (jGs L g, I1, J) := by
    rw [e_TextValuesModel_closes_55, a4, jin_nI (by omega) (by omega), nI_c (by omega), cond_true, e150]
    rcases hso with ⟨e1, e2⟩ | ⟨e1, e2, e3⟩
    · rw [jif_f (by rw [e1]; decide)]
    · rw [jif_t (by rw [e1]; decide), jif_f (by rcases e3 with e | e <;> rw [e] <;> decide), jif_f (by rcases e3 with e | e <;> rw [e] <;> decide)]
  refine ⟨_, ?_, ?_, hq4, ?_, fun j => ⟨?_, ?_⟩, ?_⟩
  · exact fQ1_t (fQ1_t (fun a j hx => a1 a j (by unfold qX1 qX at hx; omega)) (fQ1_0 b1)) (fun a j hx => by unfold qX1 qX at hx; rw [ju_ne (by omega), ju_ne (by omega)])
  · exact lR_p b2 (fun a j haj => by rw [ju_ne (by omega), ju_ne (by omega)])
  · rw [zu_a (by omega), zu_a (by omega), b5]; exact a4
  · rw [zu_a (by omega), zu_a (by omega), b4 _ _ (by omega) (by omega), a1 _ _ (by omega)]
  · rw [zu_a (by omega), zu_a (by omega), b4 _ _ (by omega) (by omega), a1 _ _ (by omega)]
  · rw [a5, e55, e_TextValuesModel_closes_114, jin_nI (by omega) (by omega), nI_c (by omega), cond_true, cond_true, y2, y3, show (9 : Int32) = nI 9 from rfl, b6, jcI_some, e_TextValuesModel_closes_133, jin_nI (by omega) (by omega), nI_c (by omega), cond_true, jin_nI (by omega) (by omega), nI_c (by omega), cond_true, e_TextValuesModel_closes_148]
end MM

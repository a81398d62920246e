/-! THE CLASS: smallest, trace -/
set_option maxRecDepth 100000
theorem lst_m (n : Nat) : nI n + Int32.ofInt (-1) = lst n := by
  unfold lst
  rw [Int32.sub_eq_add_neg]
  rfl
theorem lst_neg : lst 0 < 0 := by decide
theorem sQ_100 {A B : kA} {K T : Nat → Nat} {N p : Nat} {I : Nat → Nat → Int32} (hA : A.1 ≤ 10) (hB : B.1 ≤ 10) (h : sQ A B K T N p I) : N ≤ 100 := vP_100 hB hA h.2.2.1 h.1.1
section CC
variable (d L : Nat) (g : jG) {J : Nat → Nat → Int64}
theorem c_tr_4 {A B : kA} {K T : Nat → Nat} {N p : Nat} {I : Nat → Nat → Int32} {x1 : Int32} (hA : A.1 ≤ 10) (hB : B.1 ≤ 10) (h : sQ A B K T N p I) (hp : p ≤ 3 * N) : ∀ (w : List Nat) (i c : Nat), i < N → pr T p i w → c + w.length ≤ 100 → jval d 124 4 [.ref 13, .int x1, .int (nI c), .int (nI (K i)), jjunk] [] (jGs L g, I, J) = jval d 124 29 [.ref 13, .int x1, .int (nI (c + w.length)), jjunk, jjunk] [] (jGs L g, I, J)
  | [], i, c, hi, hw, _ => by
    have h0 : i = 0 := hw
    rw [e_Texts_trace_4, h0, h.2.1, jif_t (show nI 0 ≤ (0 : Int32) by decide)]
    rfl
  | l :: w, i, c, hi, hw, hl => by
    obtain ⟨h1, q, q1, q2, q3, q4, q5⟩ := hw
    obtain ⟨r, r1, r2, r3, r4, r5⟩ := h.2.2.2.2.2.2.1 i h1 hi
    have hqr : q = r := by
      rcases Nat.lt_trichotomy q r with hlt | heq | hgt
      · exact absurd q2 (r3 q hlt)
      · exact heq
      · exact absurd r2 (q3 r hgt)
    subst hqr
    rw [List.length_cons] at hl ⊢
    have hv := (h.2.2.1 i hi).1
    have hK : 0 < K i := by
      apply Classical.byContradiction
      intro hz
      have := h.1.1 i hi 0 (by omega) (by rw [h.2.1]; omega)
      omega
    have hv2 := (h.2.2.1 (q / 3) (by omega)).1
    have ih := c_tr_4 hA hB h hp (x1 := x1) w (q / 3) (c + 1) (by omega) q5 (by omega)
    rw [show c + 1 + w.length = c + (w.length + 1) by omega] at ih
    rw [e_Texts_trace_4, jif_f (show ¬ nI (K i) ≤ (0 : Int32) from nI_nle hK (by omega)), jif_f (show ¬ (100 : Int32) ≤ nI c from nI_ge (a := c) (b := 100) (by omega) (by omega)), jin_nI (by omega) (by omega), nI_c (by omega), cond_true, r4, nI_1, nI_pred]
    exact ih
theorem c_tr_36 {A B : kA} {K T : Nat → Nat} {N p : Nat} {x2 : Int32} (hA : A.1 ≤ 10) (hB : B.1 ≤ 10) (hp : p ≤ 3 * N) : ∀ (w : List Nat) (i : Nat) (I : Nat → Nat → Int32), sQ A B K T N p I → i < N → pr T p i w → w.length ≤ 100 → ∃ I', (∀ y, y ≠ 15 → I' y = I y) ∧ (∀ x, w.length ≤ x → I' 15 x = I 15 x) ∧ (∀ x, x < w.length → I' 15 x = nI (w.reverse.getD x 0)) ∧ jval d 124 36 [.ref 13, jjunk, .int x2, .int (nI (K i)), .int (lst w.length)] [] (jGs L g, I, J) = some (some (.int x2), (jGs L g, I', J))
  | [], i, I, h, hi, hw, _ => by
    refine ⟨I, fun _ _ => rfl, fun _ _ => rfl, fun x hx => absurd hx (by simp), ?_⟩
    rw [e_Texts_trace_36, show ([] : List Nat).length = 0 from rfl, jif_t lst_neg, e_Texts_trace_73]
  | l :: w, i, I, h, hi, hw, hl => by
    obtain ⟨h1, q, q1, q2, q3, q4, q5⟩ := hw
    obtain ⟨r, r1, r2, r3, r4, r5⟩ := h.2.2.2.2.2.2.1 i h1 hi
    have hqr : q = r := by
      rcases Nat.lt_trichotomy q r with hlt | heq | hgt
      · exact absurd q2 (r3 q hlt)
      · exact heq
      · exact absurd r2 (q3 r hgt)
    subst hqr
    rw [List.length_cons] at hl
    have hv := (h.2.2.1 i hi).1
    have hK : 0 < K i := by
      apply Classical.byContradiction
      intro hz
      have := h.1.1 i hi 0 (by omega) (by rw [h.2.1]; omega)
      omega
    have hsQ : sQ A B K T N p (ju I 15 w.length (nI (q % 3))) := by
      obtain ⟨s1, s2, s3, s4, s5, s6, s7, s8⟩ := id h
      refine ⟨s1, s2, s3, fun i hi => by rw [zu_a (by omega)]; exact s4 i hi, fun k hk hn => by rw [zu_a (by omega)]; exact s5 k hk hn, by rw [zu_a (by omega)]; exact s6, fun i i1 i2 => ?_, s8⟩
      obtain ⟨r, r1, r2, r3, r4, r5⟩ := s7 i i1 i2
      exact ⟨r, r1, r2, r3, by rw [zu_a (by omega)]; exact r4, by rw [zu_a (by omega)]; exact r5⟩
    obtain ⟨I', a1, a2, a3, a4⟩ := c_tr_36 (x2 := x2) hA hB hp w (q / 3) (ju I 15 w.length (nI (q % 3))) hsQ (by omega) q5 (by omega)
    refine ⟨I', fun y hy => (a1 y hy).trans (ju_n hy), fun x hx => by rw [List.length_cons] at hx; rw [a2 x (by omega), zu_k (by omega)], fun x hx => ?_, ?_⟩
    · rw [List.length_cons] at hx
      rw [List.reverse_cons]
      by_cases hxw : x < w.length
      · rw [a3 x hxw, List.getD_eq_getElem?_getD, List.getD_eq_getElem?_getD, List.getElem?_append_left (by rw [List.length_reverse]; exact hxw)]
      · have : x = w.length := by omega
        subst this
        rw [a2 _ (Nat.le_refl _), zu_at, List.getD_eq_getElem?_getD, List.getElem?_append_right (by rw [List.length_reverse]; exact Nat.le_refl _), List.length_reverse, Nat.sub_self, q4]
        rfl
    · rw [List.length_cons, e_Texts_trace_36, lst_s, jif_f (show ¬ nI w.length < (0 : Int32) from nI_nlt (a := w.length) (b := 0) (by omega) (by omega)), jif_f (show ¬ nI (K i) ≤ (0 : Int32) from nI_nle hK (by omega)), jin_nI (by omega) (by omega), nI_c (by omega), cond_true, jin_nI (by omega) (by omega), nI_c (by omega), cond_true, cond_true, r4, r5, nI_pred, lst_m, zi_b (by omega)]
      exact a4
theorem c_trace {A B : kA} {K T : Nat → Nat} {N p i : Nat} {I : Nat → Nat → Int32} {w : List Nat} (hA : A.1 ≤ 10) (hB : B.1 ≤ 10) (h : sQ A B K T N p I) (hp : p ≤ 3 * N) (hi : i < N) (hw : pr T p i w) (hl : w.length ≤ 100) : ∃ I', (∀ y, y ≠ 15 → I' y = I y) ∧ (∀ x, x < w.length → I' 15 x = nI (w.reverse.getD x 0)) ∧ jcall (d + 1) 124 [.ref 13, .int (nI (K i))] (jGs L g, I, J) = some (some (.int (nI w.length)), (jGs L g, I', J)) := by
  obtain ⟨I', a1, a2, a3, a4⟩ := c_tr_36 d L g (J := J) (x2 := nI w.length) hA hB hp w i I h hi hw hl
  refine ⟨I', a1, a3, ?_⟩
  have h4 := c_tr_4 d L g (J := J) (x1 := nI (K i)) hA hB h hp w i 0 hi hw (by omega)
  rw [Nat.zero_add] at h4
  rw [c_Texts_trace, e_Texts_trace_0, show (0 : Int32) = nI 0 from rfl, h4, e_Texts_trace_29]
  exact a4
theorem sQ_old {A B : kA} {K T : Nat → Nat} {N p i : Nat} {I : Nat → Nat → Int32} (h : sQ A B K T N p I) (hp : p / 3 < N) (hi : i < N) (he : K i = nxP A B (K (p / 3)) (p % 3)) (hg : p % 3 = 0 → p / 3 ≤ tM T p) : sQ A B K (jup T p i) N (p + 1) I := by
  obtain ⟨s1, s2, s3, s4, s5, s6, s7, s8⟩ := h
  have hc : ∀ q, q ≤ p → tM (jup T p i) q = tM T q := fun q hq => tM_congr q (fun q' hq' => jup_n (by omega))
  refine ⟨bf_old s1 hp hi he, s2, s3, s4, s5, s6, fun j j1 j2 => ?_, fun j hj => ?_⟩
  · obtain ⟨r, r1, r2, r3, r4, r5⟩ := s7 j j1 j2
    exact ⟨r, by omega, by rw [jup_n (by omega)]; exact r2, fun q' hq' => by rw [jup_n (by omega)]; exact r3 q' hq', r4, r5⟩
  · rw [hc _ (by omega)]
    by_cases hjp : 3 * j < p
    · exact s8 j hjp
    · have : p = 3 * j := by omega
      have := hg (by omega)
      rw [show 3 * j = p by omega]
      omega
theorem sQ_new {A B : kA} {K T : Nat → Nat} {N p : Nat} {I : Nat → Nat → Int32} (h : sQ A B K T N p I) (hp : p / 3 < N) (hn : ∀ i, i < N → K i ≠ nxP A B (K (p / 3)) (p % 3)) (hv : vP A B (nxP A B (K (p / 3)) (p % 3))) (hg : p % 3 = 0 → p / 3 ≤ tM T p) : sQ A B (jup K N (nxP A B (K (p / 3)) (p % 3))) (jup T p N) (N + 1) (p + 1) (ju (ju (ju I 17 (nxP A B (K (p / 3)) (p % 3)) (nI (K (p / 3) + 1))) 18 (nxP A B (K (p / 3)) (p % 3)) (nI (p % 3))) 16 N (nI (nxP A B (K (p / 3)) (p % 3)))) := by
  obtain ⟨s1, s2, s3, s4, s5, s6, s7, s8⟩ := h
  have hc : ∀ q, q ≤ p → tM (jup T p N) q = tM T q := fun q hq => tM_congr q (fun q' hq' => jup_n (by omega))
  have hT : ∀ q, q < p → T q < N := fun q hq => (s1.2.1 q hq).1
  generalize hy : nxP A B (K (p / 3)) (p % 3) = y at hn hv ⊢
  have hne0 : y ≠ 0 := fun e => hn 0 (by omega) (by rw [s2, e])
  refine ⟨hy ▸ bf_new s1 hp (fun i hi => by rw [hy]; exact hn i hi), by rw [jup_n (by omega)]; exact s2, fun i hi => ?_, fun i hi => ?_, fun k hk hno => ?_, ?_, fun j j1 j2 => ?_, fun j hj => ?_⟩
  · by_cases hiN : i = N
    · rw [hiN, jup_s]; exact hv
    · rw [jup_n hiN]; exact s3 i (by omega)
  · by_cases hiN : i = N
    · rw [hiN, jup_s, zu_at]
    · rw [jup_n hiN, zu_k hiN, zu_a (by omega), zu_a (by omega)]; exact s4 i (by omega)
  · have hky : k ≠ y := fun e => hno N (by omega) (by rw [jup_s, e])
    rw [zu_a (by omega), zu_a (by omega), zu_k hky]
    exact s5 k hk (fun i hi e => hno i (by omega) (by rw [jup_n (by omega)]; exact e))
  · rw [zu_a (by omega), zu_a (by omega), zu_k (by omega)]; exact s6
  · by_cases hjN : j = N
    · refine ⟨p, by omega, by rw [jup_s, hjN], fun q' hq' => by rw [jup_n (by omega)]; have := hT q' hq'; omega, ?_, ?_⟩
      · rw [hjN, jup_s, zu_a (by omega), zu_a (by omega), zu_at, jup_n (by omega)]
      · rw [hjN, jup_s, zu_a (by omega), zu_at]
    · obtain ⟨r, r1, r2, r3, r4, r5⟩ := s7 j j1 (by omega)
      have hkj : K j ≠ y := hn j (by omega)
      have hr3 := (s1.2.1 r r1).2.1
      refine ⟨r, by omega, by rw [jup_n (by omega)]; exact r2, fun q' hq' => by rw [jup_n (by omega)]; exact r3 q' hq', ?_, ?_⟩
      · rw [jup_n hjN, zu_a (by omega), zu_a (by omega), zu_k hkj, jup_n (by omega)]; exact r4
      · rw [jup_n hjN, zu_a (by omega), zu_k hkj]; exact r5
  · rw [hc _ (by omega)]
    by_cases hjp : 3 * j < p
    · exact s8 j hjp
    · have := hg (by omega)
      rw [show 3 * j = p by omega]
      omega
theorem c_sm_95 {a b : Nat} {A B : kA} {K T : Nat → Nat} {N i l : Nat} {I : Nat → Nat → Int32} {ins : Bool} (hA : cR L g I J a A) (hB : cR L g I J b B) (h : sQ A B K T N (3 * i + l) I) (hl : l < 3) (hi : i < N) : ∃ K' T' N' I', sQ A B K' T' N' (3 * i + l + 1) I' ∧ N ≤ N' ∧ (∀ j, j < N → K' j = K j) ∧ (∀ y, y ≠ 16 → y ≠ 17 → y ≠ 18 → I' y = I y) ∧ jval (d + 1) 123 95 [.ref 13, .ref a, .ref b, .int (bI ins), .int (nI N), .int (nI i), .int (nI (K i)), .int (nI (K i / 10)), .int (nI (K i % 10)), .int (nI l), jjunk] [] (jGs L g, I, J) = jval (d + 1) 123 95 [.ref 13, .ref a, .ref b, .int (bI ins), .int (nI N'), .int (nI i), .int (nI (K i)), .int (nI (K i / 10)), .int (nI (K i % 10)), .int (nI (l + 1)), jjunk] [] (jGs L g, I', J) := by
  have kA : (jGs L g).1 a = 2 := hA.1
  have kB : (jGs L g).1 b = 2 := hB.1
  have hVA := hA.2.1
  have hVB := hB.2.1
  have h100 := sQ_100 hVA.2.1 hVB.2.1 h
  have hvi := h.2.2.1 i hi
  have hp3 : (3 * i + l) / 3 = i := by omega
  have hpm : (3 * i + l) % 3 = l := by omega
  obtain ⟨hv, -, -⟩ := vP_nx hVA.1.1 hVB.1.1 hVB.2.1 hvi hl
  have htA : A.2.2 (K i / 10) l < 10 := by have := hVA.1.1.2 _ hvi.1 l hl; have := hVA.2.1; omega
  have htB : B.2.2 (K i % 10) l < 10 := by have := hVB.1.1.2 _ hvi.2 l hl; have := hVB.2.1; omega
  have hKi : K i < 100 := by have := hvi.1; have := hVA.2.1; omega
  have hto : nI (A.2.2 (K i / 10) l) * (10 : Int32) + nI (B.2.2 (K i % 10) l) = nI (nxP A B (K i) l) := by
    rw [show (10 : Int32) = nI 10 from rfl, nI_mul, nI_add, Nat.mul_comm]
    rfl
  have hy : nxP A B (K i) l < 100 := by unfold nxP; omega
  have hg : (3 * i + l) % 3 = 0 → (3 * i + l) / 3 ≤ tM T (3 * i + l) := fun hz => by
    rw [hp3]
    have := h.1.2.2.2
    omega
  have step : jval (d + 1) 123 95 [.ref 13, .ref a, .ref b, .int (bI ins), .int (nI N), .int (nI i), .int (nI (K i)), .int (nI (K i / 10)), .int (nI (K i % 10)), .int (nI l), jjunk] [] (jGs L g, I, J) = jval (d + 1) 123 120 [.ref 13, .ref a, .ref b, .int (bI ins), .int (nI N), .int (nI i), .int (nI (K i)), .int (nI (K i / 10)), .int (nI (K i % 10)), .int (nI l), jjunk] [.int (nI (B.2.2 (K i % 10) l)), .int (nI (A.2.2 (K i / 10) l) * (10 : Int32))] (jGs L g, I, J) := by
    rw [e_Texts_smallest_95, jif_f (show ¬ (3 : Int32) ≤ nI l from nI_ge (a := l) (b := 3) hl (by omega)), if_pos kA, c_to d L g hA (by omega) hl, jcI_some, e_Texts_smallest_109, if_pos kB, c_to d L g hB (by omega) hl, jcI_some]
  have hjm : jmm (nI (nxP A B (K i) l)) (99 : Int32) = nI (nxP A B (K i) l) := jmm_le (c := 99) (by omega) (by omega)
  by_cases hex : ∃ j, j < N ∧ K j = nxP A B (K i) l
  · obtain ⟨j, j1, j2⟩ := hex
    have hnz : ¬ I 17 (nxP A B (K i) l) = 0 := by
      by_cases hj0 : j = 0
      · rw [← j2, hj0, h.2.1, h.2.2.2.2.2.1]; decide
      · obtain ⟨r, r1, r2, r3, r4, r5⟩ := h.2.2.2.2.2.2.1 j (by omega) j1
        have hr3 := (h.1.2.1 r r1).2.1
        have := (h.2.2.1 _ hr3).1
        have := hVA.2.1
        rw [← j2, r4]
        exact nI_ne0 (by omega) (by omega)
    refine ⟨K, jup T (3 * i + l) j, N, I, sQ_old h (by omega) j1 (by rw [hp3, hpm]; exact j2) hg, Nat.le_refl _, fun _ _ => rfl, fun _ _ _ _ => rfl, ?_⟩
    rw [step, e_Texts_smallest_120, hto, hjm, jin_nI (by omega) (by omega), nI_c (by omega), cond_true, jif_f hnz, e_Texts_smallest_180, nI_1]
  · have hno : ∀ j, j < N → K j ≠ nxP A B (K i) l := fun j hj e => hex ⟨j, hj, e⟩
    have hz := h.2.2.2.2.1 _ hy hno
    have hs := sQ_new h (by omega) (by rw [hp3, hpm]; exact hno) (by rw [hp3, hpm]; exact hv) hg
    rw [hp3, hpm] at hs
    have hN : N < 100 := by have := sQ_100 hVA.2.1 hVB.2.1 hs; omega
    refine ⟨_, _, N + 1, _, hs, by omega, fun j hj => jup_n (by omega), fun y y1 y2 y3 => by rw [ju_n y1, ju_n y3, ju_n y2], ?_⟩
    rw [step, e_Texts_smallest_120, hto, hjm, jin_nI (by omega) (by omega), nI_c (by omega), cond_true, jif_t (show I 17 (nxP A B (K i) l) = 0 from hz), jif_f (show ¬ (100 : Int32) ≤ nI N from nI_ge (a := N) (b := 100) (by omega) (by omega)), cond_true, cond_true, jin_nI (by omega) (by omega), nI_c (by omega), cond_true, nI_1, nI_1, zi_b (n := l) (by omega), zi_b (n := l) (by omega), zi_b (n := K i + 1) (by omega), zi_b (n := K i + 1) (by omega), zi_b (n := nxP A B (K i) l) (by omega), zi_b (n := nxP A B (K i) l) (by omega), e_Texts_smallest_180, nI_1]
theorem c_sm_29 {a b : Nat} {A B : kA} {K T : Nat → Nat} {N i : Nat} {I : Nat → Nat → Int32} {ins : Bool} (hA : cR L g I J a A) (hB : cR L g I J b B) (a16 : a ≠ 16) (a17 : a ≠ 17) (a18 : a ≠ 18) (b16 : b ≠ 16) (b17 : b ≠ 17) (b18 : b ≠ 18) (h : sQ A B K T N (3 * i) I) (hi : i < N) (he : (A.2.1 (K i / 10) && (B.2.1 (K i % 10) == ins)) = false) : ∃ K' T' N' I', sQ A B K' T' N' (3 * (i + 1)) I' ∧ N ≤ N' ∧ (∀ j, j < N → K' j = K j) ∧ (∀ y, y ≠ 16 → y ≠ 17 → y ≠ 18 → I' y = I y) ∧ jval (d + 1) 123 29 [.ref 13, .ref a, .ref b, .int (bI ins), .int (nI N), .int (nI i), jjunk, jjunk, jjunk, jjunk, jjunk] [] (jGs L g, I, J) = jval (d + 1) 123 29 [.ref 13, .ref a, .ref b, .int (bI ins), .int (nI N'), .int (nI (i + 1)), jjunk, jjunk, jjunk, jjunk, jjunk] [] (jGs L g, I', J) := by
  have kA : (jGs L g).1 a = 2 := hA.1
  have kB : (jGs L g).1 b = 2 := hB.1
  have hVA := hA.2.1
  have hVB := hB.2.1
  have h100 := sQ_100 hVA.2.1 hVB.2.1 h
  have hvi := h.2.2.1 i hi
  have hq := h.2.2.2.1 i hi
  have hA10 := hVA.2.1
  have hB10 := hVB.2.1
  have hKi : K i < 100 := by have := hvi.1; omega
  have hm : nI (K i) - nI (K i / 10) * nI 10 = nI (K i % 10) := by rw [nI_mul, zi_sub (by omega), show K i - K i / 10 * 10 = K i % 10 by omega]
  obtain ⟨K1, T1, N1, I1, s1, n1, k1, f1, e1⟩ := c_sm_95 d L g (ins := ins) hA hB (l := 0) h (by omega) hi
  have hA1 : cR L g I1 J a A := cR_cg L g hA rfl (f1 a a16 a17 a18) rfl
  have hB1 : cR L g I1 J b B := cR_cg L g hB rfl (f1 b b16 b17 b18) rfl
  obtain ⟨K2, T2, N2, I2, s2, n2, k2, f2, e2⟩ := c_sm_95 d L g (ins := ins) hA1 hB1 (l := 1) s1 (by omega) (by omega)
  have hA2 : cR L g I2 J a A := cR_cg L g hA1 rfl (f2 a a16 a17 a18) rfl
  have hB2 : cR L g I2 J b B := cR_cg L g hB1 rfl (f2 b b16 b17 b18) rfl
  obtain ⟨K3, T3, N3, I3, s3, n3, k3, f3, e3⟩ := c_sm_95 d L g (ins := ins) hA2 hB2 (l := 2) s2 (by omega) (by omega)
  rw [k1 i hi] at e2
  rw [k2 i (by omega), k1 i hi] at e3
  have e92 : jval (d + 1) 123 92 [.ref 13, .ref a, .ref b, .int (bI ins), .int (nI N), .int (nI i), .int (nI (K i)), .int (nI (K i / 10)), .int (nI (K i % 10)), jjunk, jjunk] [] (jGs L g, I, J) = jval (d + 1) 123 29 [.ref 13, .ref a, .ref b, .int (bI ins), .int (nI N3), .int (nI (i + 1)), jjunk, jjunk, jjunk, jjunk, jjunk] [] (jGs L g, I3, J) := by
    rw [e_Texts_smallest_92, show (0 : Int32) = nI 0 from rfl, e1, e2, e3, e_Texts_smallest_95, jif_t (show (3 : Int32) ≤ nI (2 + 1) by decide), nI_1]
  refine ⟨K3, T3, N3, I3, s3, by omega, fun j hj => by rw [k3 j (by omega), k2 j (by omega), k1 j hj], fun y y1 y2 y3 => by rw [f3 y y1 y2 y3, f2 y y1 y2 y3, f1 y y1 y2 y3], ?_⟩
  rw [e_Texts_smallest_29, jif_f (nI_ge (by omega) (by omega)), jif_f (show ¬ (100 : Int32) ≤ nI i from nI_ge (a := i) (b := 100) (by omega) (by omega)), jin_nI (by omega) (by omega), nI_c (by omega), cond_true, jif_f (by decide), jif_f (by decide), if_pos kA, hq, show (10 : Int32) = nI 10 from rfl, zi_div (by omega) (by omega) (by omega), hm, c_isEnd d L g hA (by omega), jcI_some, e_Texts_smallest_72]
  by_cases hx : A.2.1 (K i / 10) = true
  · rw [hx, jif_f (by decide), if_pos kB, c_isEnd d L g hB (by omega), jcI_some, e_Texts_smallest_81]
    have hne : ¬ bI (B.2.1 (K i % 10)) = bI ins := by
      rw [zb_eq]
      intro e
      rw [hx, e] at he
      simp at he
    rw [jif_f hne]
    exact e92
  · rw [Bool.not_eq_true] at hx
    rw [hx, jif_t (by decide)]
    exact e92
theorem c_sm_end {a b : Nat} {A B : kA} {K T : Nat → Nat} {N i : Nat} {I : Nat → Nat → Int32} {ins : Bool} {w : List Nat} (hA : cR L g I J a A) (hB : cR L g I J b B) (h : sQ A B K T N (3 * i) I) (hi : i < N) (hw : pr T (3 * i) i w) (hl : w.length ≤ 100) (he : (A.2.1 (K i / 10) && (B.2.1 (K i % 10) == ins)) = true) : ∃ I', (∀ y, y ≠ 15 → I' y = I y) ∧ (∀ x, x < w.length → I' 15 x = nI (w.reverse.getD x 0)) ∧ jval (d + 1) 123 29 [.ref 13, .ref a, .ref b, .int (bI ins), .int (nI N), .int (nI i), jjunk, jjunk, jjunk, jjunk, jjunk] [] (jGs L g, I, J) = some (some (.int (nI w.length)), (jGs L g, I', J)) := by
  have kA : (jGs L g).1 a = 2 := hA.1
  have kB : (jGs L g).1 b = 2 := hB.1
  have hVA := hA.2.1
  have hVB := hB.2.1
  have h100 := sQ_100 hVA.2.1 hVB.2.1 h
  have hvi := h.2.2.1 i hi
  have hq := h.2.2.2.1 i hi
  have hA10 := hVA.2.1
  have hB10 := hVB.2.1
  have hKi : K i < 100 := by have := hvi.1; omega
  have hm : nI (K i) - nI (K i / 10) * nI 10 = nI (K i % 10) := by rw [nI_mul, zi_sub (by omega), show K i - K i / 10 * 10 = K i % 10 by omega]
  rw [Bool.and_eq_true, beq_iff_eq] at he
  obtain ⟨I', t1, t2, t3⟩ := c_trace d L g (J := J) hA10 hB10 h (by omega) hi hw hl
  refine ⟨I', t1, t2, ?_⟩
  rw [e_Texts_smallest_29, jif_f (nI_ge (by omega) (by omega)), jif_f (show ¬ (100 : Int32) ≤ nI i from nI_ge (a := i) (b := 100) (by omega) (by omega)), jin_nI (by omega) (by omega), nI_c (by omega), cond_true, jif_f (by decide), jif_f (by decide), if_pos kA, hq, show (10 : Int32) = nI 10 from rfl, zi_div (by omega) (by omega) (by omega), hm, c_isEnd d L g hA (by omega), jcI_some, e_Texts_smallest_72, he.1, jif_f (by decide), if_pos kB, c_isEnd d L g hB (by omega), jcI_some, e_Texts_smallest_81, he.2, jif_t rfl, t3, jcI_some, e_Texts_smallest_91]
theorem c_sm_all {a b m : Nat} {A B : kA} {ins : Bool} (hm : ∀ x y, mHow m x y = (x && (y == ins))) (a16 : a ≠ 16) (a17 : a ≠ 17) (a18 : a ≠ 18) (b16 : b ≠ 16) (b17 : b ≠ 17) (b18 : b ≠ 18) : ∀ f i (K T : Nat → Nat) N (I : Nat → Nat → Int32), i + f = 100 → cR L g I J a A → cR L g I J b B → sQ A B K T N (3 * i) I → i ≤ N → (∀ i', i' < i → enP (mHow m) A B (K i') = false) → ∃ I' o, (∀ y, y ≠ 15 → y ≠ 16 → y ≠ 17 → y ≠ 18 → I' y = I y) ∧ lsP (nxP A B) (enP (mHow m) A B) 0 o ∧ ((o = none ∧ jval (d + 1) 123 29 [.ref 13, .ref a, .ref b, .int (bI ins), .int (nI N), .int (nI i), jjunk, jjunk, jjunk, jjunk, jjunk] [] (jGs L g, I, J) = some (some (.int (-1)), (jGs L g, I', J))) ∨ ∃ w, o = some w ∧ w.length < 100 ∧ kW w ∧ (∀ x, x < w.length → I' 15 x = nI (w.getD x 0)) ∧ jval (d + 1) 123 29 [.ref 13, .ref a, .ref b, .int (bI ins), .int (nI N), .int (nI i), jjunk, jjunk, jjunk, jjunk, jjunk] [] (jGs L g, I, J) = some (some (.int (nI w.length)), (jGs L g, I', J))) := by
  intro f
  induction f with
  | zero =>
    intro i K T N I hf hA hB h hiN hno
    have h100 := sQ_100 hA.2.1.2.1 hB.2.1.2.1 h
    have hN : N = i := by omega
    refine ⟨I, none, fun _ _ _ _ _ => rfl, ⟨K, T, N, 3 * i, h.2.1, h.1, h.2.2.2.2.2.2.2, by omega, Or.inl ⟨rfl, by omega, fun i' hi' => hno i' (by omega)⟩⟩, Or.inl ⟨rfl, ?_⟩⟩
    rw [e_Texts_smallest_29, jif_t (nI_le (by omega) (by omega)), e_Texts_smallest_192]
  | succ f ih =>
    intro i K T N I hf hA hB h hiN hno
    have h100 := sQ_100 hA.2.1.2.1 hB.2.1.2.1 h
    by_cases hN : N = i
    · refine ⟨I, none, fun _ _ _ _ _ => rfl, ⟨K, T, N, 3 * i, h.2.1, h.1, h.2.2.2.2.2.2.2, by omega, Or.inl ⟨rfl, by omega, fun i' hi' => hno i' (by omega)⟩⟩, Or.inl ⟨rfl, ?_⟩⟩
      rw [e_Texts_smallest_29, jif_t (nI_le (by omega) (by omega)), e_Texts_smallest_192]
    · have hi : i < N := by omega
      cases he : enP (mHow m) A B (K i) with
      | true =>
        obtain ⟨w, w1, w2, w3⟩ := path_e2 (fun j j1 j2 => by obtain ⟨q, q1, q2, q3, -⟩ := h.2.2.2.2.2.2.1 j j1 j2; exact ⟨q, q1, q2, q3⟩) (by omega) h.2.2.2.2.2.2.2 h.1.2.2.1 i hi
        obtain ⟨I', t1, t2, t3⟩ := c_sm_end d L g (ins := ins) hA hB h hi w1 (by omega) (by rw [← hm]; exact he)
        refine ⟨I', some w.reverse, fun y y1 _ _ _ => t1 y y1, ⟨K, T, N, 3 * i, h.2.1, h.1, h.2.2.2.2.2.2.2, by omega, Or.inr ⟨i, w.reverse, rfl, hi, he, hno, by rw [List.reverse_reverse]; exact w1⟩⟩, Or.inr ⟨w.reverse, rfl, by rw [List.length_reverse]; omega, fun x hx => w3 x (List.mem_reverse.mp hx), fun x hx => t2 x (by rw [List.length_reverse] at hx; exact hx), ?_⟩⟩
        rw [List.length_reverse]
        exact t3
      | false =>
        obtain ⟨K', T', N', I1, s1, n1, k1, f1, e1⟩ := c_sm_29 d L g (ins := ins) hA hB a16 a17 a18 b16 b17 b18 h hi (by rw [← hm]; exact he)
        obtain ⟨I', o, g1, g2, g3⟩ := ih (i + 1) K' T' N' I1 (by omega) (cR_cg L g hA rfl (f1 a a16 a17 a18) rfl) (cR_cg L g hB rfl (f1 b b16 b17 b18) rfl) s1 (by omega) (fun i' hi' => by
          rw [k1 i' (by omega)]
          by_cases hii : i' = i
          · rw [hii]; exact he
          · exact hno i' (by omega))
        rw [← e1] at g3
        exact ⟨I', o, fun y y1 y2 y3 y4 => by rw [g1 y y1 y2 y3 y4, f1 y y2 y3 y4], g2, g3⟩
theorem c_smallest {I : Nat → Nat → Int32} {a b m : Nat} {A B : kA} {ins : Bool} (hm : ∀ x y, mHow m x y = (x && (y == ins))) (hA : cR L g I J a A) (hB : cR L g I J b B) : ∃ I' o, (∀ y, y ≠ 15 → y ≠ 16 → y ≠ 17 → y ≠ 18 → I' y = I y) ∧ lsP (nxP A B) (enP (mHow m) A B) 0 o ∧ ((o = none ∧ jcall (d + 2) 123 [.ref 13, .ref a, .ref b, .int (bI ins)] (jGs L g, I, J) = some (some (.int (-1)), (jGs L g, I', J))) ∨ ∃ w, o = some w ∧ w.length < 100 ∧ kW w ∧ (∀ x, x < w.length → I' 15 x = nI (w.getD x 0)) ∧ jcall (d + 2) 123 [.ref 13, .ref a, .ref b, .int (bI ins)] (jGs L g, I, J) = some (some (.int (nI w.length)), (jGs L g, I', J))) := by
  have a16 : a ≠ 16 := ne_K hA.1 (show gK L g 16 = 14 from rfl) (by omega)
  have a17 : a ≠ 17 := ne_K hA.1 (show gK L g 17 = 14 from rfl) (by omega)
  have a18 : a ≠ 18 := ne_K hA.1 (show gK L g 18 = 14 from rfl) (by omega)
  have b16 : b ≠ 16 := ne_K hB.1 (show gK L g 16 = 14 from rfl) (by omega)
  have b17 : b ≠ 17 := ne_K hB.1 (show gK L g 17 = 14 from rfl) (by omega)
  have b18 : b ≠ 18 := ne_K hB.1 (show gK L g 18 = 14 from rfl) (by omega)
  obtain ⟨I1, q1, q2, q3⟩ := c_clear d L g (J := J) (a := 17) (I := I) rfl rfl
  have hs : sQ A B (fun _ => 0) (fun _ => 0) 1 (3 * 0) (ju (ju I1 17 0 (nI 101)) 16 0 (nI 0)) := by
    refine ⟨bf_0 _ _ _, rfl, fun i hi => ?_, fun i hi => ?_, fun k hk hno => ?_, ?_, fun i i1 i2 => by omega, fun i hi => by omega⟩
    · exact ⟨by rw [Nat.zero_div]; exact hA.2.1.1.1.1, by rw [Nat.zero_mod]; exact hB.2.1.1.1.1⟩
    · have : i = 0 := by omega
      rw [this, zu_at]
    · have : k ≠ 0 := fun e => hno 0 (by omega) e.symm
      rw [zu_a (by omega), zu_k this]; exact q2 k hk
    · rw [zu_a (by omega), zu_at]
  obtain ⟨I', o, g1, g2, g3⟩ := c_sm_all d L g hm a16 a17 a18 b16 b17 b18 100 0 _ _ 1 _ rfl (cR_cg L g hA rfl (by rw [ju_n a16, ju_n a17, q1 a a17]) rfl) (cR_cg L g hB rfl (by rw [ju_n b16, ju_n b17, q1 b b17]) rfl) hs (by omega) (fun i' hi' => absurd hi' (by omega))
  have start : jcall (d + 2) 123 [.ref 13, .ref a, .ref b, .int (bI ins)] (jGs L g, I, J) = jval (d + 1) 123 29 [.ref 13, .ref a, .ref b, .int (bI ins), .int (nI 1), .int (nI 0), jjunk, jjunk, jjunk, jjunk, jjunk] [] (jGs L g, ju (ju I1 17 0 (nI 101)) 16 0 (nI 0), J) := by
    rw [c_Texts_smallest, e_Texts_smallest_0, show (0 : Int32) = nI 0 from rfl, q3, jcV_some, e_Texts_smallest_8]
    simp (disch := omega) only [li_0, li_1, li_2, li_3, li_4, li_5, li_6, li_7, li_8, li_9, li_10, li_11, li_12, li_13, li_14, li_15, li_16, li_17, li_18, li_19, li_20, li_21, li_22, li_23, li_24, li_25, li_26, li_27, li_28, li_29, li_30, li_31, li_32, li_33, li_34, li_35, li_36, li_37, li_38, li_39, li_40, li_41, li_42, li_43, li_44, li_45, li_46, li_47, li_48, li_49, li_50, li_51, li_52, li_53, li_54, li_55, li_56, li_57, li_58, li_59, li_60, li_61, li_62, li_63, li_64, li_65, li_66, li_67, li_68, li_69, li_70, li_71, li_72, li_73, li_74, li_75, li_76, li_77, li_78, li_79, li_80, li_81, li_82, li_83, li_84, li_85, li_86, li_87, li_88, li_89, li_90, li_91, li_92, li_93, li_94, li_95, li_96, li_97, li_98, li_99, li_100, li_101, li_102, li_103, li_104, li_105, li_106, li_107, li_108, li_109, li_110, li_111, li_112, li_113, li_114, li_115, li_116, li_117, li_118, li_119, li_120, li_121, li_122, li_123, li_124, li_125, li_126, li_127, li_128, li_160, li_219, li_220, li_248, li_249, li_250, li_251, li_255, li_999, li_1000, li_1023, li_1024, li_10240, li_999999, li_1048576, li_1048575, nI_add, nI_mul, zi_div, zi_eq, zi_le, zi_lt, zi_in, zi_c, zi_sub, zi_ofN, zi_m1e, zi_m1e', zi_m1lt, zi_m1le, zi_ltm1, zi_lem1, zi_m1m1, jif_T, jif_F, jif_t, jif_f, zb_1, zb_0, zb_01, zb_ft, zn_01a, zn_01b, zi_tst, zi_pow, cond_true, jcI_some, jcV_some, jcJ_some, Nat.reduceAdd, Nat.reduceMul, Nat.reduceSub, reduceCtorEq, Bool.true_eq_false, Bool.false_eq_true, zb_t, zb_f, Nat.add_zero, Nat.zero_add, Nat.mul_zero, Nat.zero_mul, or_true, true_or, or_false, false_or, and_true, true_and, and_false, false_and, not_true_eq_false, not_false_eq_true, zi_b]
  rw [← start] at g3
  exact ⟨I', o, fun y y1 y2 y3 y4 => by rw [g1 y y1 y2 y3 y4, ju_n y2, ju_n y3, q1 y y3], g2, g3⟩
end CC

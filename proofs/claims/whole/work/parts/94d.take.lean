/-! THE CLASS: a pattern is read, all of it -/
set_option maxRecDepth 100000
section CC
variable (d L : Nat) (g : jG) {J : Nat → Nat → Int64}
theorem c_take {S : pS} {I : Nat → Nat → Int32} {c : Nat} (hc : c < 128) (h : cPS S I) (hB : pB S) (hd : S.1 < 120) : ∃ I', cPf I I' ∧ ((∃ S', tk S c = some S' ∧ cPS S' I' ∧ jcall (d + 4) 53 [.ref 30, .int (nI c)] (jGs L g, I, J) = some (some (.int (nI 1)), (jGs L g, I', J))) ∨ (tk S c = none ∧ jcall (d + 4) 53 [.ref 30, .int (nI c)] (jGs L g, I, J) = some (some (.int (nI 0)), (jGs L g, I', J)))) := by
  have ne : ∀ b, b < 128 → c ≠ b → ¬ nI c = nI b := fun b hb hne e => hne ((nI_eq (by omega) (by omega)).mp e)
  by_cases hr : c = 42 ∨ c = 63
  · obtain ⟨I', a1, a2⟩ := c_repeat d L g (J := J) hr h hB (by omega)
    have start : ∀ r S1, jcall (d + 3) 54 [.ref 30, .int (bI (decide (c = 42)))] (jGs L g, I, J) = some (some (.int (nI r)), S1) → r = 0 ∨ r = 1 → jcall (d + 4) 53 [.ref 30, .int (nI c)] (jGs L g, I, J) = jval (d + 3) 53 27 [jjunk, jjunk] [.int (nI r)] S1 := by
      intro r S1 hS hr1
      rw [c_PatternReader_take, e_PatternReader_take_0]
      by_cases h42 : c = 42
      · rw [decide_eq_true h42] at hS
        have hS' : jcall (d + 3) 54 [.ref 30, .int (1 : Int32)] (jGs L g, I, J) = some (some (.int (nI r)), S1) := hS
        rw [jif_t (by rw [h42]; rfl), e_PatternReader_take_12, jif_t (by rw [h42]; rfl), e_PatternReader_take_24, hS', jcI_some]
      · rw [decide_eq_false h42] at hS
        have hS' : jcall (d + 3) 54 [.ref 30, .int (0 : Int32)] (jGs L g, I, J) = some (some (.int (nI r)), S1) := hS
        rw [jif_f (show ¬ nI c = (42 : Int32) from ne 42 (by omega) h42), jif_t (by rw [show c = 63 by omega]; rfl), e_PatternReader_take_12, jif_f (show ¬ nI c = (42 : Int32) from ne 42 (by omega) h42), e_PatternReader_take_24, hS', jcI_some]
    refine ⟨I', a1, ?_⟩
    rcases a2 with ⟨S', b1, b2, b3⟩ | ⟨b1, b2⟩
    · refine Or.inl ⟨S', b1, b2, ?_⟩
      rw [start 1 _ b3 (Or.inr rfl), e_PatternReader_take_27, jif_t (by decide)]
    · refine Or.inr ⟨b1, ?_⟩
      rw [start 0 _ b2 (Or.inl rfl), e_PatternReader_take_27, jif_t (by decide)]
  · obtain ⟨I1, s1, s2, s3⟩ := c_settle (d + 1) L g (J := J) h hB (by omega)
    have hB1 := pB_stl hB
    have hp1 := stl_p S
    have hd1 : (stl S).1 < 120 := by rw [stl_d]; exact hd
    have htk : tk S c = act (stl S) c := by unfold tk; rw [if_neg hr]
    rw [htk]
    have start : jcall (d + 4) 53 [.ref 30, .int (nI c)] (jGs L g, I, J) = jval (d + 3) 53 32 [.ref 30, .int (nI c)] [] (jGs L g, I1, J) := by
      rw [c_PatternReader_take, e_PatternReader_take_0, jif_f (show ¬ nI c = (42 : Int32) from ne 42 (by omega) (by omega)), jif_f (show ¬ nI c = (63 : Int32) from ne 63 (by omega) (by omega)), s3, jcV_some]
    rw [start, e_PatternReader_take_32]
    by_cases h40 : c = 40
    · obtain ⟨I', a1, S', a2, a3, a4⟩ := c_openGroup (d + 2) L g (J := J) s2 hp1 hd1
      refine ⟨I', cPf_t s1 a1, Or.inl ⟨S', by rw [h40]; exact a2, a3, ?_⟩⟩
      rw [jif_t (by rw [h40]; rfl), e_PatternReader_take_106, a4, jcI_some, e_PatternReader_take_110, jif_t (by decide)]
    · rw [jif_f (show ¬ nI c = (40 : Int32) from ne 40 (by omega) h40)]
      by_cases h41 : c = 41
      · rw [jif_t (by rw [h41]; rfl)]
        obtain ⟨I', a1, a2⟩ := c_closeGroup (d + 2) L g (J := J) s2 hB1 hp1 (by omega)
        refine ⟨I', cPf_t s1 a1, ?_⟩
        rcases a2 with ⟨S', b1, b2, b3⟩ | ⟨b1, b2⟩
        · refine Or.inl ⟨S', by rw [h41]; exact b1, b2, ?_⟩
          rw [e_PatternReader_take_111, b3, jcI_some, e_PatternReader_take_115, jif_t (by decide)]
        · refine Or.inr ⟨by rw [h41]; exact b1, ?_⟩
          rw [e_PatternReader_take_111, b2, jcI_some, e_PatternReader_take_115, jif_t (by decide)]
      · rw [jif_f (show ¬ nI c = (41 : Int32) from ne 41 (by omega) h41)]
        have hL : isL c = true → jif (nI c = (46 : Int32)) (jval (d + 3) 53 100 [.ref 30, .int (nI c)] [] (jGs L g, I1, J)) (jif (nI c = (97 : Int32)) (jval (d + 3) 53 100 [.ref 30, .int (nI c)] [] (jGs L g, I1, J)) (jif (nI c = (98 : Int32)) (jval (d + 3) 53 100 [.ref 30, .int (nI c)] [] (jGs L g, I1, J)) (jif (nI c = (99 : Int32)) (jval (d + 3) 53 100 [.ref 30, .int (nI c)] [] (jGs L g, I1, J)) (jif (nI c = (124 : Int32)) (jval (d + 3) 53 116 [.ref 30, jjunk] [] (jGs L g, I1, J)) (jval (d + 3) 53 150 [jjunk, jjunk] [] (jGs L g, I1, J)))))) = jval (d + 3) 53 100 [.ref 30, .int (nI c)] [] (jGs L g, I1, J) := by
          intro hl
          have hl' : c = 46 ∨ c = 97 ∨ c = 98 ∨ c = 99 := of_decide_eq_true hl
          by_cases g46 : c = 46
          · rw [jif_t (by rw [g46]; rfl)]
          · rw [jif_f (show ¬ nI c = (46 : Int32) from ne 46 (by omega) g46)]
            by_cases g97 : c = 97
            · rw [jif_t (by rw [g97]; rfl)]
            · rw [jif_f (show ¬ nI c = (97 : Int32) from ne 97 (by omega) g97)]
              by_cases g98 : c = 98
              · rw [jif_t (by rw [g98]; rfl)]
              · rw [jif_f (show ¬ nI c = (98 : Int32) from ne 98 (by omega) g98), jif_t (by rw [show c = 99 by omega]; rfl)]
        by_cases hl : isL c = true
        · rw [hL hl]
          obtain ⟨I', a1, a2⟩ := c_addLetter (d + 2) L g (J := J) hc s2 hB1 hp1 hl
          refine ⟨I', cPf_t s1 a1, ?_⟩
          rcases a2 with ⟨S', b1, b2, b3⟩ | ⟨b1, b2⟩
          · refine Or.inl ⟨S', b1, b2, ?_⟩
            rw [e_PatternReader_take_100, b3, jcI_some, e_PatternReader_take_105, jif_t (by decide)]
          · refine Or.inr ⟨b1, ?_⟩
            rw [e_PatternReader_take_100, b2, jcI_some, e_PatternReader_take_105, jif_t (by decide)]
        · have hl' : ¬ (c = 46 ∨ c = 97 ∨ c = 98 ∨ c = 99) := fun e => hl (decide_eq_true e)
          rw [jif_f (show ¬ nI c = (46 : Int32) from ne 46 (by omega) (by omega)), jif_f (show ¬ nI c = (97 : Int32) from ne 97 (by omega) (by omega)), jif_f (show ¬ nI c = (98 : Int32) from ne 98 (by omega) (by omega)), jif_f (show ¬ nI c = (99 : Int32) from ne 99 (by omega) (by omega))]
          by_cases h124 : c = 124
          · obtain ⟨I', a1, S', a2, a3, a4⟩ := c_bar (d + 3) L g (J := J) s2 hB1 hp1 (by omega)
            refine ⟨I', cPf_t s1 a1, Or.inl ⟨S', by rw [h124]; exact a2, a3, ?_⟩⟩
            rw [jif_t (by rw [h124]; rfl), a4]
          · refine ⟨I1, s1, Or.inr ⟨?_, ?_⟩⟩
            · unfold act
              rw [if_neg h40, if_neg h41, if_neg h124, if_neg hl]
            · rw [jif_f (show ¬ nI c = (124 : Int32) from ne 124 (by omega) h124), e_PatternReader_take_150, jif_t (Or.inl rfl)]
              rfl
theorem c_rd_56 {a N : Nat} {c : Nat → Nat} (ka : (jGs L g).1 a = 14) (la : (jGs L g).2.1 a = 120) (hN : N ≤ 120) (hc : ∀ i, i < N → c i < 128) (a30 : a ≠ 30) (a31 : a ≠ 31) (a32 : a ≠ 32) (a33 : a ≠ 33) (a34 : a ≠ 34) : ∀ f i (S : pS) (I : Nat → Nat → Int32), i + f = N → cPS S I → pB S → S.1 ≤ i → (∀ j, j < N → I a j = nI (c j)) → ∃ I', cPf I I' ∧ ((∃ S', rn c f i S = (some S', 0) ∧ pB S' ∧ S'.1 = 0 ∧ cPS S' I' ∧ jval (d + 4) 50 56 [.ref 30, .ref a, jjunk, .int (nI N), .int (nI i)] [] (jGs L g, I, J) = some (some (.int (-1)), (jGs L g, I', J))) ∨ ∃ p, rn c f i S = (none, p) ∧ p ≤ N ∧ jval (d + 4) 50 56 [.ref 30, .ref a, jjunk, .int (nI N), .int (nI i)] [] (jGs L g, I, J) = some (some (.int (nI p)), (jGs L g, I', J))) := by
  intro f
  induction f with
  | zero =>
    intro i S I hi h hB hd hA
    have hiN : i = N := by omega
    have h1 : I 30 2 = nI S.1 := h.1
    have hrn : rn c 0 i S = if S.1 = 0 then (some (stl S), 0) else (none, i) := rfl
    rw [hrn]
    by_cases h0 : S.1 = 0
    · obtain ⟨I1, s1, s2, s3⟩ := c_settle (d + 2) L g (J := J) h hB (by omega)
      refine ⟨I1, s1, Or.inl ⟨stl S, if_pos h0, pB_stl hB, by rw [stl_d]; exact h0, s2, ?_⟩⟩
      rw [e_PatternReader_read_56, jif_t (nI_le (by omega) (by omega)), h1, jif_t (by rw [h0]; decide), s3, jcV_some, e_PatternReader_read_104]
    · refine ⟨I, fun _ _ _ _ _ _ => rfl, Or.inr ⟨i, if_neg h0, by omega, ?_⟩⟩
      rw [e_PatternReader_read_56, jif_t (nI_le (by omega) (by omega)), h1, jif_f (show ¬ nI S.1 ≤ (0 : Int32) from nI_nle (by omega) (by omega)), hiN]
  | succ f ih =>
    intro i S I hi h hB hd hA
    have hci := hc i (by omega)
    have hrn : rn c (f + 1) i S = if c i = 32 then rn c f (i + 1) S else match tk S (c i) with
      | none => (none, i)
      | some S' => rn c f (i + 1) S' := rfl
    rw [hrn]
    by_cases h32 : c i = 32
    · obtain ⟨I', r1, r2⟩ := ih (i + 1) S I (by omega) h hB (by omega) hA
      have e : jval (d + 4) 50 56 [.ref 30, .ref a, jjunk, .int (nI N), .int (nI i)] [] (jGs L g, I, J) = jval (d + 4) 50 56 [.ref 30, .ref a, jjunk, .int (nI N), .int (nI (i + 1))] [] (jGs L g, I, J) := by
        rw [e_PatternReader_read_56, jif_f (nI_ge (by omega) (by omega)), if_pos ka, la, jin_nI (by omega) (by omega), nI_c (by omega), cond_true, hA i (by omega), jif_t (by rw [h32]; rfl), e_PatternReader_read_85, nI_1]
      rw [if_pos h32, e]
      exact ⟨I', r1, r2⟩
    · rw [if_neg h32]
      obtain ⟨I1, t1, t2⟩ := c_take d L g (J := J) hci h hB (by omega)
      have e : ∀ r S1, jcall (d + 4) 53 [.ref 30, .int (nI (c i))] (jGs L g, I, J) = some (some (.int (nI r)), S1) → jval (d + 4) 50 56 [.ref 30, .ref a, jjunk, .int (nI N), .int (nI i)] [] (jGs L g, I, J) = jval (d + 4) 50 79 [.ref 30, .ref a, jjunk, .int (nI N), .int (nI i)] [.int (nI r)] S1 := by
        intro r S1 hS
        rw [e_PatternReader_read_56, jif_f (nI_ge (by omega) (by omega)), if_pos ka, la, jin_nI (by omega) (by omega), nI_c (by omega), cond_true, hA i (by omega), jif_f (show ¬ nI (c i) = (32 : Int32) from fun e => h32 ((nI_eq (b := 32) (by omega) (by omega)).mp e)), if_pos ka, cond_true, hS, jcI_some]
      rcases t2 with ⟨S', b1, b2, b3⟩ | ⟨b1, b2⟩
      · obtain ⟨I', r1, r2⟩ := ih (i + 1) S' I1 (by omega) b2 (pB_tk hB b1) (by have := tk_d b1; omega) (fun j hj => by rw [t1 a a30 a31 a32 a33 a34]; exact hA j hj)
        have e2 : jval (d + 4) 50 56 [.ref 30, .ref a, jjunk, .int (nI N), .int (nI i)] [] (jGs L g, I, J) = jval (d + 4) 50 56 [.ref 30, .ref a, jjunk, .int (nI N), .int (nI (i + 1))] [] (jGs L g, I1, J) := by
          rw [e 1 _ b3, e_PatternReader_read_79, jif_f (by decide), e_PatternReader_read_85, nI_1]
        rw [b1, e2]
        exact ⟨I', cPf_t t1 r1, r2⟩
      · rw [b1]
        refine ⟨I1, t1, Or.inr ⟨i, rfl, by omega, ?_⟩⟩
        rw [e 0 _ b2, e_PatternReader_read_79, jif_t (by decide)]
/-- a row of n ints is filled with 0 -/
theorem c_cl0_5 {a n : Nat} (hn : n < 2147483648) (k : (jGs L g).1 a = 15) (l : (jGs L g).2.1 a = n) : ∀ m i (I : Nat → Nat → Int32), i + m = n → (∀ x, x < i → I a x = nI 0) → ∃ I', (∀ y, y ≠ a → I' y = I y) ∧ (∀ x, x < n → I' a x = nI 0) ∧ jval d 278 5 [.ref a, .int (nI 0), .int (nI i), .int (nI n)] [] (jGs L g, I, J) = some (none, (jGs L g, I', J)) := by
  intro m
  induction m with
  | zero =>
    intro i I hi h
    have : i = n := by omega
    subst this
    refine ⟨I, fun _ _ => rfl, h, ?_⟩
    rw [e_Arrays_fill_5, jif_t (nI_le (Nat.le_refl _) hn)]
  | succ m ih =>
    intro i I hi h
    obtain ⟨I', q1, q2, q3⟩ := ih (i + 1) (ju I a i (nI 0)) (by omega) (fun x hx => by
      by_cases hxi : x = i
      · rw [hxi, zu_at]
      · rw [zu_k hxi]; exact h x (by omega))
    refine ⟨I', fun y hy => (q1 y hy).trans (ju_n hy), q2, ?_⟩
    rw [e_Arrays_fill_5, jif_f (nI_ge (by omega) (by omega)), if_pos k, l, jin_nI (by omega) (by omega), nI_c (by omega), cond_true, nI_1]
    exact q3
theorem c_cl0 {a n : Nat} {I : Nat → Nat → Int32} (hn : n < 2147483648) (k : (jGs L g).1 a = 15) (l : (jGs L g).2.1 a = n) : ∃ I', (∀ y, y ≠ a → I' y = I y) ∧ (∀ x, x < n → I' a x = nI 0) ∧ jcall (d + 1) 278 [.ref a, .int (nI 0)] (jGs L g, I, J) = some (none, (jGs L g, I', J)) := by
  obtain ⟨I', q1, q2, q3⟩ := c_cl0_5 d L g (J := J) hn k l n 0 I (by omega) (fun x hx => absurd hx (by omega))
  refine ⟨I', q1, q2, ?_⟩
  rw [c_Arrays_fill, e_Arrays_fill_0, if_pos (by omega), l, ← q3]
  rfl
theorem c_read {a N : Nat} {c : Nat → Nat} {I : Nat → Nat → Int32} (ka : (jGs L g).1 a = 14) (la : (jGs L g).2.1 a = 120) (hN : N ≤ 120) (hc : ∀ i, i < N → c i < 128) (hA : ∀ j, j < N → I a j = nI (c j)) : ∃ I', cPf I I' ∧ ((∃ S', rn c N 0 pS0 = (some S', 0) ∧ pB S' ∧ S'.1 = 0 ∧ cPS S' I' ∧ jcall (d + 5) 50 [.ref 30, .ref a, .int (nI N)] (jGs L g, I, J) = some (some (.int (-1)), (jGs L g, I', J))) ∨ ∃ p, rn c N 0 pS0 = (none, p) ∧ p ≤ N ∧ jcall (d + 5) 50 [.ref 30, .ref a, .int (nI N)] (jGs L g, I, J) = some (some (.int (nI p)), (jGs L g, I', J))) := by
  have a30 : a ≠ 30 := ne_K (L := L) (g := g) ka (show gK L g 30 = 5 from rfl) (by omega)
  have a31 : a ≠ 31 := ne_K (L := L) (g := g) ka (show gK L g 31 = 15 from rfl) (by omega)
  have a32 : a ≠ 32 := ne_K (L := L) (g := g) ka (show gK L g 32 = 15 from rfl) (by omega)
  have a33 : a ≠ 33 := ne_K (L := L) (g := g) ka (show gK L g 33 = 15 from rfl) (by omega)
  have a34 : a ≠ 34 := ne_K (L := L) (g := g) ka (show gK L g 34 = 15 from rfl) (by omega)
  generalize hI0 : ju (ju (ju (ju (ju I 30 2 (nI 0)) 31 0 (nI 0)) 32 0 (nI 1048576)) 30 4 (nI 0)) 30 5 (nI 0) = I0
  obtain ⟨I1, b1, b2, b3⟩ := c_cl0 (d + 3) L g (J := J) (a := 33) (n := 10) (I := I0) (by omega) rfl rfl
  obtain ⟨I2, e1, e2, e3⟩ := c_cl0 (d + 3) L g (J := J) (a := 34) (n := 3) (I := I1) (by omega) rfl rfl
  have F : ∀ y, y ≠ 33 → y ≠ 34 → I2 y = I0 y := fun y h1 h2 => by rw [e1 y h2, b1 y h1]
  have hS : cPS pS0 I2 := by
    refine ⟨?_, ?_, fun k hk => ?_, ?_, fun x hx => ?_, fun l hl => ?_⟩
    · rw [F 30 (by omega) (by omega), ← hI0, zu_k (by omega), zu_k (by omega), zu_a (by omega), zu_a (by omega), zu_at]; rfl
    · show I2 30 4 = nI 0
      rw [F 30 (by omega) (by omega), ← hI0, zu_k (by omega), zu_at]
    · have hk0 : k ≤ 0 := hk
      have : k = 0 := by omega
      subst this
      rw [F 31 (by omega) (by omega), F 32 (by omega) (by omega), ← hI0]
      constructor
      · rw [zu_a (by omega), zu_a (by omega), zu_a (by omega), zu_at]; rfl
      · rw [zu_a (by omega), zu_a (by omega), zu_at]; rfl
    · show I2 30 5 = nI 0
      rw [F 30 (by omega) (by omega), ← hI0, zu_at]
    · show I2 33 x = nI 0
      rw [e1 33 (by omega)]; exact b2 x hx
    · show I2 34 l = nI 0
      exact e2 l hl
  have hF0 : ∀ y, y ≠ 30 → y ≠ 31 → y ≠ 32 → I0 y = I y := fun y h0 h1 h2 => by rw [← hI0, ju_n h0, ju_n h0, ju_n h2, ju_n h1, ju_n h0]
  have hf : cPf I I2 := fun y h0 h1 h2 h3 h4 => by rw [F y h3 h4, hF0 y h0 h1 h2]
  obtain ⟨I', r1, r2⟩ := c_rd_56 d L g (J := J) ka la hN hc a30 a31 a32 a33 a34 N 0 pS0 I2 (by omega) hS pB_0 (Nat.le_refl _) (fun j hj => by rw [hf a a30 a31 a32 a33 a34]; exact hA j hj)
  have start : jcall (d + 5) 50 [.ref 30, .ref a, .int (nI N)] (jGs L g, I, J) = jval (d + 4) 50 56 [.ref 30, .ref a, jjunk, .int (nI N), .int (nI 0)] [] (jGs L g, I2, J) := by
    rw [c_PatternReader_read, e_PatternReader_read_0]
    simp (disch := omega) only [li_0, li_1, li_2, li_3, li_4, li_5, li_6, li_7, li_8, li_9, li_10, li_11, li_12, li_13, li_14, li_15, li_16, li_17, li_18, li_19, li_20, li_21, li_22, li_23, li_24, li_25, li_26, li_27, li_28, li_29, li_30, li_31, li_32, li_33, li_34, li_35, li_36, li_37, li_38, li_39, li_40, li_41, li_42, li_43, li_44, li_45, li_46, li_47, li_48, li_49, li_50, li_51, li_52, li_53, li_54, li_55, li_56, li_57, li_58, li_59, li_60, li_61, li_62, li_63, li_64, li_65, li_66, li_67, li_68, li_69, li_70, li_71, li_72, li_73, li_74, li_75, li_76, li_77, li_78, li_79, li_80, li_81, li_82, li_83, li_84, li_85, li_86, li_87, li_88, li_89, li_90, li_91, li_92, li_93, li_94, li_95, li_96, li_97, li_98, li_99, li_100, li_101, li_102, li_103, li_104, li_105, li_106, li_107, li_108, li_109, li_110, li_111, li_112, li_113, li_114, li_115, li_116, li_117, li_118, li_119, li_120, li_121, li_122, li_123, li_124, li_125, li_126, li_127, li_128, li_160, li_219, li_220, li_248, li_249, li_250, li_251, li_255, li_999, li_1000, li_1023, li_1024, li_10240, li_999999, li_1048576, li_1048575, nI_add, nI_mul, zi_div, zi_eq, zi_le, zi_lt, zi_in, zi_c, zi_sub, zi_ofN, zi_m1e, zi_m1e', zi_m1lt, zi_m1le, zi_ltm1, zi_lem1, zi_m1m1, jif_T, jif_F, jif_t, jif_f, zb_1, zb_0, zb_01, zb_ft, zn_01a, zn_01b, zi_tst, zi_pow, cond_true, jcI_some, jcV_some, jcJ_some, Nat.reduceAdd, Nat.reduceMul, Nat.reduceSub, reduceCtorEq, Bool.true_eq_false, Bool.false_eq_true, zb_t, zb_f, Nat.add_zero, Nat.zero_add, Nat.mul_zero, Nat.zero_mul, or_true, true_or, or_false, false_or, and_true, true_and, and_false, false_and, not_true_eq_false, not_false_eq_true, hI0, b3, e_PatternReader_read_38, e3]
    rw [e_PatternReader_read_46, if_pos (by omega), la, show Int32.ofNat 120 = nI 120 from rfl, jmm_le (by omega) (by omega)]
    rfl
  rw [start]
  exact ⟨I', cPf_t hf r1, r2⟩
end CC

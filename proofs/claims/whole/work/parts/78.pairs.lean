/-! THE CLASS: join, both, less -/
set_option maxRecDepth 100000
/-- the steps of two languages side by side -/
def fP (A B : kA) (q l : Nat) : Nat := if q < A.1 then 2 ^ A.2.2 q l else 2 ^ (A.1 + B.2.2 (q - A.1) l)
theorem fP_lt {A B : kA} (hA : kV A) (hB : kV B) (q l : Nat) : fP A B q l < 1048576 := by
  unfold fP
  have h1 := kV_to hA q l
  have h2 := kV_to hB (q - A.1) l
  have h3 := hA.2.1
  split
  · exact Nat.lt_of_lt_of_le (Nat.pow_lt_pow_right (by omega) h1) (show 2 ^ 10 ≤ 1048576 by decide)
  · exact Nat.lt_of_lt_of_le (Nat.pow_lt_pow_right (by omega) (show A.1 + B.2.2 (q - A.1) l < 20 by omega)) (show 2 ^ 20 ≤ 1048576 by decide)
/-- up to a place -/
def fPt (F : Nat → Nat → Nat) (q0 l0 : Nat) (q l : Nat) : Nat := if q < q0 ∨ (q = q0 ∧ l < l0) then F q l else 0
theorem fPt_lt {F : Nat → Nat → Nat} (h : ∀ q l, F q l < 1048576) (q0 l0 q l : Nat) : fPt F q0 l0 q l < 1048576 := by
  unfold fPt
  split
  · exact h q l
  · omega
theorem fPt_s {F : Nat → Nat → Nat} {q0 l0 : Nat} (hl : l0 < 3) : ∀ q l, l < 3 → jup (fPt F q0 l0) q0 (jup (fPt F q0 l0 q0) l0 (fPt F q0 l0 q0 l0 ||| F q0 l0)) q l = fPt F q0 (l0 + 1) q l := by
  intro q l hl3
  by_cases hq : q = q0
  · subst hq
    rw [jup_s]
    by_cases hll : l = l0
    · subst hll
      rw [jup_s]
      unfold fPt
      rw [if_neg (by omega), if_pos (by omega), Nat.zero_or]
    · rw [jup_n hll]
      unfold fPt
      by_cases h : l < l0
      · rw [if_pos (by omega), if_pos (by omega)]
      · rw [if_neg (by omega), if_neg (by omega)]
  · rw [jup_n hq]
    unfold fPt
    by_cases h : q < q0
    · rw [if_pos (by omega), if_pos (by omega)]
    · rw [if_neg (by omega), if_neg (by omega)]
theorem fPt_r {F : Nat → Nat → Nat} {q0 : Nat} : ∀ q l, l < 3 → fPt F q0 3 q l = fPt F (q0 + 1) 0 q l := by
  intro q l hl
  unfold fPt
  by_cases h : q ≤ q0
  · rw [if_pos (by omega), if_pos (by omega)]
  · rw [if_neg (by omega), if_neg (by omega)]
theorem kR20 {L : Nat} {g : jG} {a : Nat} (h : gK L g a = 2) : a ≠ 19 ∧ a ≠ 20 ∧ a ≠ 21 ∧ a ≠ 22 ∧ a ≠ 23 ∧ a ≠ 29 := ⟨ne_K h (gK_19 L g) (by omega), ne_K h (show gK L g 20 = 16 from rfl) (by omega), ne_K h (show gK L g 21 = 16 from rfl) (by omega), ne_K h (show gK L g 22 = 16 from rfl) (by omega), ne_K h (show gK L g 23 = 16 from rfl) (by omega), ne_K h (show gK L g 29 = 16 from rfl) (by omega)⟩
section CC
variable (d L : Nat) (g : jG)
theorem c_pair_76 {I : Nat → Nat → Int32} {n m q a b a5 : Nat} {A B : kA} {x6 : Int32} {f : Nat} (hV : kV A) (hW : kV B) (hn : n = A.1 + B.1) (hq : q < n) (hf : f = if q < A.1 then 0 else A.1) (ha5 : a5 = if q < A.1 then a else b) (hx6 : x6 = nI f) : ∀ k l (J : Nat → Nat → Int64), l + k = 3 → cR L g I J a A → cR L g I J b B → mkU I J n A.1 m (fPt (fP A B) q l) → ∃ J', (∀ y, y ≠ 20 → J' y = J y) ∧ mkU I J' n A.1 m (fPt (fP A B) (q + 1) 0) ∧ jval (d + 1) 33 76 [.ref 19, .ref a, .ref b, jjunk, .int (nI q), .ref a5, .int x6, .int (nI l)] [] (jGs L g, I, J) = jval (d + 1) 33 29 [.ref 19, .ref a, .ref b, jjunk, .int (nI (q + 1)), jjunk, jjunk, jjunk] [] (jGs L g, I, J') := by
  have hA10 := hV.2.1
  have hB10 := hW.2.1
  intro k
  induction k with
  | zero =>
    intro l J hl hA hB hU
    have : l = 3 := by omega
    subst this
    refine ⟨J, fun _ _ => rfl, mkU_cg hU (fun q' _ l' hl' => (fPt_r q' l' hl').symm) (fPt_lt (fP_lt hV hW) _ _), ?_⟩
    rw [e_Maker_pair_76, jif_t (by decide), nI_1]
  | succ k ih =>
    intro l J hl hA hB hU
    have hl3 : l < 3 := by omega
    -- the step
    have hto : jcI (jcall (d + 1) 21 [.ref a5, .int (nI q - x6), .int (nI l)] (jGs L g, I, J)) (fun r2 S1 => jval (d + 1) 33 102 [.ref 19, .ref a, .ref b, jjunk, .int (nI q), .ref a5, .int x6, .int (nI l)] [.int r2, .int x6, .int (1 : Int32), .int (nI l), .int (nI q), .ref 19] S1) = jcV (jcall (d + 1) 29 [.ref 19, .int (nI q), .int (nI l), .int (nI (fP A B q l))] (jGs L g, I, J)) (fun S1 => jval (d + 1) 33 107 [.ref 19, .ref a, .ref b, jjunk, .int (nI q), .ref a5, .int x6, .int (nI l)] [] S1) := by
      unfold fP
      by_cases hqA : q < A.1
      · rw [if_pos hqA] at hf ha5 ⊢
        have h10 := kV_to hV q l
        subst hf
        rw [hx6, ha5, zi_sub (by omega), Nat.sub_zero, c_to d L g hA (by omega) hl3, jcI_some, e_Maker_pair_102, nI_add, Nat.zero_add, show ((1 : Int32) <<< (nI (A.2.2 q l) &&& 31)) = nI (2 ^ A.2.2 q l) from nI_pow _ (by omega)]
      · rw [if_neg hqA] at hf ha5 ⊢
        have h10 := kV_to hW (q - A.1) l
        subst hf
        rw [hx6, ha5, zi_sub (by omega), c_to d L g hB (by omega) hl3, jcI_some, e_Maker_pair_102, nI_add, show ((1 : Int32) <<< (nI (A.1 + B.2.2 (q - A.1) l) &&& 31)) = nI (2 ^ (A.1 + B.2.2 (q - A.1) l)) from nI_pow _ (by omega)]
    have hk5 : (jGs L g).1 a5 = 2 := by
      rw [ha5]
      split
      · exact hA.1
      · exact hB.1
    obtain ⟨s1, s2⟩ := c_addStepU d L g hU hq hl3 (fP_lt hV hW q l)
    have hA20 := (kR20 hA.1).2.1
    have hB20 := (kR20 hB.1).2.1
    obtain ⟨J', q1, q2, q3⟩ := ih (l + 1) _ (by omega) (cR_cg L g hA rfl rfl (ju_n hA20)) (cR_cg L g hB rfl rfl (ju_n hB20)) (mkU_cg s1 (fun q' _ l' hl' => (fPt_s hl3 q' l' hl').symm) (fPt_lt (fP_lt hV hW) _ _))
    refine ⟨J', fun y hy => (q1 y hy).trans (ju_n hy), q2, ?_⟩
    rw [e_Maker_pair_76, jif_f (show ¬ (3 : Int32) ≤ nI l from nI_ge (a := l) (b := 3) hl3 (by omega)), if_pos hk5, hto, s2, jcV_some, e_Maker_pair_107, nI_1]
    exact q3
theorem c_pair_29 {I : Nat → Nat → Int32} {n m a b : Nat} {A B : kA} (hV : kV A) (hW : kV B) (hn : n = A.1 + B.1) : ∀ k q (J : Nat → Nat → Int64), q + k = n → cR L g I J a A → cR L g I J b B → mkU I J n A.1 m (fPt (fP A B) q 0) → ∃ J', (∀ y, y ≠ 20 → J' y = J y) ∧ mkU I J' n A.1 m (fP A B) ∧ jval (d + 1) 33 29 [.ref 19, .ref a, .ref b, jjunk, .int (nI q), jjunk, jjunk, jjunk] [] (jGs L g, I, J) = some (none, (jGs L g, I, J')) := by
  have hA10 := hV.2.1
  have hB10 := hW.2.1
  intro k
  induction k with
  | zero =>
    intro q J hq hA hB hU
    have : q = n := by omega
    subst this
    refine ⟨J, fun _ _ => rfl, mkU_cg hU (fun q' hq' l' hl' => ?_) (fP_lt hV hW), ?_⟩
    · unfold fPt
      rw [if_pos (by omega)]
    · rw [e_Maker_pair_29, hU.1, jif_t (nI_le (Nat.le_refl _) (by omega))]
  | succ k ih =>
    intro q J hq hA hB hU
    obtain ⟨J1, a1, a2, a3⟩ := c_pair_76 d L g (m := m) (q := q) (a5 := if q < A.1 then a else b) (f := if q < A.1 then 0 else A.1) (x6 := nI (if q < A.1 then 0 else A.1)) hV hW hn (by omega) rfl rfl rfl 3 0 J (by omega) hA hB hU
    have hA20 := (kR20 hA.1).2.1
    have hB20 := (kR20 hB.1).2.1
    obtain ⟨J', q1, q2, q3⟩ := ih (q + 1) J1 (by omega) (cR_cg L g hA rfl rfl (a1 a hA20)) (cR_cg L g hB rfl rfl (a1 b hB20)) a2
    refine ⟨J', fun y hy => (q1 y hy).trans (a1 y hy), q2, ?_⟩
    rw [e_Maker_pair_29, hU.1, hU.2.1, jif_f (nI_ge (by omega) (by omega))]
    by_cases hqA : q < A.1
    · rw [if_pos hqA, if_pos hqA] at a3
      rw [jif_f (nI_ge (by omega) (by omega)), e_Maker_pair_52, hU.2.1, jif_f (nI_ge (by omega) (by omega)), e_Maker_pair_71, show (0 : Int32) = nI 0 from rfl, a3]
      exact q3
    · rw [if_neg hqA, if_neg hqA] at a3
      rw [jif_t (nI_le (by omega) (by omega)), e_Maker_pair_52, hU.2.1, jif_t (nI_le (by omega) (by omega)), e_Maker_pair_71, show (0 : Int32) = nI 0 from rfl, a3]
      exact q3
/-- the maker's own fields -/
def f19 (I I' : Nat → Nat → Int32) : Prop := (∀ a, a ≠ 19 → I' a = I a) ∧ I' 19 7 = I 19 7 ∧ I' 19 12 = I 19 12
theorem c_pair {I : Nat → Nat → Int32} {J : Nat → Nat → Int64} {m a b : Nat} {A B : kA} (hm : m < 3) (hA : cR L g I J a A) (hB : cR L g I J b B) : ∃ I' J', f19 I I' ∧ (∀ y, y ≠ 20 → J' y = J y) ∧ mkU I' J' (A.1 + B.1) A.1 m (fP A B) ∧ jcall (d + 2) 33 [.ref 19, .ref a, .ref b, .int (nI m)] (jGs L g, I, J) = some (none, (jGs L g, I', J')) := by
  have hV := hA.2.1
  have hW := hB.2.1
  have hA10 := hV.2.1
  have hB10 := hW.2.1
  obtain ⟨J1, b1, b2, b3⟩ := c_begin d L g (I := I) (J := J) (n := A.1 + B.1) (by omega)
  have ha := kR20 hA.1
  have hb := kR20 hB.1
  have hA1 : cR L g (ju (ju (ju (ju (ju I 19 4 (nI (A.1 + B.1))) 19 5 (nI (A.1 + B.1))) 19 6 (nI 0)) 19 5 (nI A.1)) 19 6 (nI m)) J1 a A := cR_cg L g hA rfl (by rw [ju_n ha.1, ju_n ha.1, ju_n ha.1, ju_n ha.1, ju_n ha.1]) (b1 a ha.2.1)
  have hB1 : cR L g (ju (ju (ju (ju (ju I 19 4 (nI (A.1 + B.1))) 19 5 (nI (A.1 + B.1))) 19 6 (nI 0)) 19 5 (nI A.1)) 19 6 (nI m)) J1 b B := cR_cg L g hB rfl (by rw [ju_n hb.1, ju_n hb.1, ju_n hb.1, ju_n hb.1, ju_n hb.1]) (b1 b hb.2.1)
  have hU : mkU (ju (ju (ju (ju (ju I 19 4 (nI (A.1 + B.1))) 19 5 (nI (A.1 + B.1))) 19 6 (nI 0)) 19 5 (nI A.1)) 19 6 (nI m)) J1 (A.1 + B.1) A.1 m (fPt (fP A B) 0 0) := by
    obtain ⟨u1, u2, u3, u4, u5, u6, u7, u8⟩ := b2
    exact ⟨by rw [zu_k (by omega), zu_k (by omega)]; exact u1, by rw [zu_k (by omega), zu_at], zu_at _ _ _ _, u4, by omega, hm, fun q hq => by rw [u7 q hq]; rw [pk3_cg (f' := fun _ => 0) (f := fPt (fP A B) 0 0 q) (fun l _ => by unfold fPt; rw [if_neg (by omega)])], fPt_lt (fP_lt hV hW) _ _⟩
  obtain ⟨J', q1, q2, q3⟩ := c_pair_29 d L g hV hW rfl (A.1 + B.1) 0 J1 (by omega) hA1 hB1 hU
  refine ⟨_, J', ⟨fun x hx => by rw [ju_n hx, ju_n hx, ju_n hx, ju_n hx, ju_n hx], by rw [zu_k (by omega), zu_k (by omega), zu_k (by omega), zu_k (by omega), zu_k (by omega)], by rw [zu_k (by omega), zu_k (by omega), zu_k (by omega), zu_k (by omega), zu_k (by omega)]⟩, fun y hy => (q1 y hy).trans (b1 y hy), q2, ?_⟩
  have k1 : (jGs L g).1 a = 2 := hA.1
  have k2 : (jGs L g).1 b = 2 := hB.1
  have i3 : ju (ju (ju I 19 4 (nI (A.1 + B.1))) 19 5 (nI (A.1 + B.1))) 19 6 (nI 0) a 3 = nI A.1 := by rw [zu_a ha.1, zu_a ha.1, zu_a ha.1]; exact hA.2.2.2.2.2
  rw [c_Maker_pair, e_Maker_pair_0, if_pos k1, if_pos k2, hA.2.2.2.2.2, hB.2.2.2.2.2, nI_add, b3, jcV_some, e_Maker_pair_13, if_pos k1, i3, show (0 : Int32) = nI 0 from rfl]
  exact q3
end CC

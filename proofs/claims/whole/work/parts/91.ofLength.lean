/-! THE CLASS: how many texts of a length -/
set_option maxRecDepth 100000
theorem jmm_le {t c : Nat} (h : t ≤ c) (hc : c < 2147483648) : jmm (nI t) (nI c) = nI t := by
  unfold jmm
  rw [jif_f (nI_nlt h hc)]
theorem jmm_ge {t c : Nat} (h : c ≤ t) (hc : t < 2147483648) : jmm (nI t) (nI c) = nI c := by
  unfold jmm
  by_cases he : c = t
  · subst he
    rw [jif_f (nI_nlt (Nat.le_refl _) hc)]
  · rw [jif_t (nI_lt (by omega) hc)]
theorem jmm_min {t c : Nat} (ht : t < 2147483648) (hc : c < 2147483648) : jmm (nI t) (nI c) = nI (min t c) := by
  by_cases h : t ≤ c
  · rw [jmm_le h hc, Nat.min_eq_left h]
  · rw [jmm_ge (by omega) ht, Nat.min_eq_right (by omega)]
/-- new cells alone -/
def fA (L : Nat) (g g' : jG) (I I' : Nat → Nat → Int32) (J J' : Nat → Nat → Int64) : Prop := (∀ a, a ≤ g.2.2.2.1 → I' a = I a ∧ J' a = J a ∧ gK L g' a = gK L g a ∧ gN L g' a = gN L g a) ∧ (∀ a k, a ≤ g.2.2.2.1 → g'.2.2.1 a k = g.2.2.1 a k) ∧ g.2.2.2.1 ≤ g'.2.2.2.1
theorem fA_rfl (L : Nat) (g : jG) (I : Nat → Nat → Int32) (J : Nat → Nat → Int64) : fA L g g I I J J := ⟨fun _ _ => ⟨rfl, rfl, rfl, rfl⟩, fun _ _ _ => rfl, Nat.le_refl _⟩
theorem mkI_A {L g g' I I' J J' PC PQ dc dq} (h : mkI L g I PC PQ) (hf : fA L g g' I I' J J') (hC : g'.2.2.2.1 = g.2.2.2.1 + dc) (hQ : g'.2.2.2.2 = g.2.2.2.2 + dq) (h1 : PC + dc ≤ 600000) (h2 : PQ + dq ≤ 7302250) : mkI L g' I' (PC + dc) (PQ + dq) := by
  obtain ⟨kr, rr, sr, gr, fr, c, base, N, z1, z2, z3, z4, z5, z6, z7, z8, z9, z10, z11, z12⟩ := h
  obtain ⟨f1, f2, f3⟩ := hf
  obtain ⟨a1, a2, a3, a4, a5, a6, a7, a8, a9, a10, a11, a12, a13, a14, a15, a16, a17, a18, a19, a20, a21, a22, a23, a24⟩ := z1
  have K := fun a ha => (f1 a ha).2.2.1
  have Ln := fun a ha => (f1 a ha).2.2.2
  have h19 : 19 ≤ g.2.2.2.1 := by omega
  refine ⟨kr, rr, sr, gr, fr, c, base, N, ⟨by rw [f2 19 9 h19]; exact a1, by rw [f2 19 10 h19]; exact a2, by rw [f2 19 11 h19]; exact a3, by rw [f2 19 13 h19]; exact a4, by rw [f2 19 14 h19]; exact a5, (K kr a20).trans a6, (K rr a21).trans a7, (K sr a22).trans a8, (K gr a23).trans a9, (K fr a24).trans a10, (Ln kr a20).trans a11, (Ln rr a21).trans a12, (Ln sr a22).trans a13, (Ln gr a23).trans a14, (Ln fr a24).trans a15, a16, a17, a18, a19, by omega, by omega, by omega, by omega, by omega⟩, z2, z3, by rw [(f1 19 h19).1]; exact z4, by rw [(f1 19 h19).1]; exact z5, z6, fun x hx => by rw [(f1 sr a22).1]; exact z7 x hx, by omega, by unfold pC at z9 ⊢; omega, by unfold pQ at z10 ⊢; omega, h1, h2⟩
section CC
variable (d L : Nat) {g : jG} {I : Nat → Nat → Int32}
/-- the two rows of numbers are 169 and 170 -/
theorem c_of_2 {a n : Nat} {A : kA} (hne : a ≠ 169) : ∀ m q (J : Nat → Nat → Int64), q + m = 10 → cR L g I J a A → (∀ x, x < q → J 169 x = lN (cnt A 0 x)) → ∃ J', (∀ y, y ≠ 169 → J' y = J y) ∧ (∀ x, x < 10 → J' 169 x = lN (cnt A 0 x)) ∧ jval (d + 1) 117 2 [.ref 13, .ref a, .int (nI n), .int (nI q), jjunk, jjunk] [] (jGs L g, I, J) = jval (d + 1) 117 35 [.ref 13, .ref a, .int (nI n), .int (nI 0), jjunk, jjunk] [] (jGs L g, I, J') := by
  intro m
  induction m with
  | zero =>
    intro q J hq hA h
    have : q = 10 := by omega
    subst this
    refine ⟨J, fun _ _ => rfl, h, ?_⟩
    rw [e_Texts_ofLength_2, jif_t (by decide)]
    rfl
  | succ m ih =>
    intro q J hq hA h
    have k1 : (jGs L g).1 a = 2 := hA.1
    obtain ⟨J', q1, q2, q3⟩ := ih (q + 1) (ju J 169 q (lN (cnt A 0 q))) (by omega) (cR_cg L g hA rfl rfl (ju_n hne)) (fun x hx => by
      by_cases hxq : x = q
      · rw [hxq, zu_at]
      · rw [zu_k hxq]; exact h x (by omega))
    refine ⟨J', fun y hy => (q1 y hy).trans (ju_n hy), q2, ?_⟩
    rw [e_Texts_ofLength_2, jif_f (show ¬ (10 : Int32) ≤ nI q from nI_ge (a := q) (b := 10) (by omega) (by omega)), if_pos k1, c_isEnd d L g hA (by omega), jcI_some, e_Texts_ofLength_18, ← q3, show cnt A 0 q = (if A.2.1 q = true then 1 else 0) from rfl]
    cases A.2.1 q
    · rw [jif_t (by decide), e_Texts_ofLength_26, jin_nI (by omega) (by omega), nI_c (by omega), cond_true, nI_1]
      rfl
    · rw [jif_f (by decide), e_Texts_ofLength_26, jin_nI (by omega) (by omega), nI_c (by omega), cond_true, nI_1]
      rfl
theorem c_of_58 {a n i : Nat} {A : kA} (hne : a ≠ 169) : ∀ m q (J : Nat → Nat → Int64), q + m = 10 → cR L g I J a A → (∀ x, x < 10 → J 170 x = lN (cnt A i x)) → (∀ x, x < q → J 169 x = lN (cnt A (i + 1) x)) → ∃ J', (∀ y, y ≠ 169 → J' y = J y) ∧ (∀ x, x < 10 → J' 169 x = lN (cnt A (i + 1) x)) ∧ jval (d + 1) 117 58 [.ref 13, .ref a, .int (nI n), .int (nI i), .int (nI q), jjunk] [] (jGs L g, I, J) = jval (d + 1) 117 35 [.ref 13, .ref a, .int (nI n), .int (nI (i + 1)), jjunk, jjunk] [] (jGs L g, I, J') := by
  intro m
  induction m with
  | zero =>
    intro q J hq hA h1 h2
    have : q = 10 := by omega
    subst this
    refine ⟨J, fun _ _ => rfl, h2, ?_⟩
    rw [e_Texts_ofLength_58, jif_t (by decide), nI_1]
  | succ m ih =>
    intro q J hq hA h1 h2
    have k1 : (jGs L g).1 a = 2 := hA.1
    have hV := hA.2.1
    have h34 : (170 : Nat) ≠ 169 := by decide
    have step : ∀ l s (J1 : Nat → Nat → Int64), l < 3 → (∀ y, y ≠ 169 → J1 y = J y) → J1 169 q = lN s → jval (d + 1) 117 76 [.ref 13, .ref a, .int (nI n), .int (nI i), .int (nI q), .int (nI l)] [] (jGs L g, I, J1) = jval (d + 1) 117 76 [.ref 13, .ref a, .int (nI n), .int (nI i), .int (nI q), .int (nI (l + 1))] [] (jGs L g, I, ju J1 169 q (lN (s + cnt A i (A.2.2 q l)))) := by
      intro l s J1 hl hf hs
      have ht := kV_to hV q l
      have hA1 : cR L g I J1 a A := cR_cg L g hA rfl rfl (hf a hne)
      have hv : J1 170 (A.2.2 q l) = lN (cnt A i (A.2.2 q l)) := by rw [hf 170 h34]; exact h1 _ ht
      have hj : jmm (nI (A.2.2 q l)) (9 : Int32) = nI (A.2.2 q l) := jmm_le (c := 9) (by omega) (by omega)
      rw [e_Texts_ofLength_76, jif_f (show ¬ (3 : Int32) ≤ nI l from nI_ge (a := l) (b := 3) hl (by omega)), jin_nI (by omega) (by omega), nI_c (by omega), cond_true, if_pos k1, c_to d L g hA1 (by omega) hl, jcI_some, hs, e_Texts_ofLength_102, hj, jin_nI (by omega) (by omega), cond_true, jin_nI (by omega) (by omega), cond_true, nI_c (by omega), nI_c (by omega), hv, lN_add, nI_1]
    obtain ⟨J', q1, q2, q3⟩ := ih (q + 1) (ju (ju (ju (ju J 169 q (lN 0)) 169 q (lN (0 + cnt A i (A.2.2 q 0)))) 169 q (lN (0 + cnt A i (A.2.2 q 0) + cnt A i (A.2.2 q 1)))) 169 q (lN (0 + cnt A i (A.2.2 q 0) + cnt A i (A.2.2 q 1) + cnt A i (A.2.2 q 2)))) (by omega) (cR_cg L g hA rfl rfl (by rw [ju_n hne, ju_n hne, ju_n hne, ju_n hne])) (fun x hx => by rw [zu_a h34, zu_a h34, zu_a h34, zu_a h34]; exact h1 x hx) (fun x hx => by
      by_cases hxq : x = q
      · rw [hxq, zu_at, Nat.zero_add]; rfl
      · rw [zu_k hxq, zu_k hxq, zu_k hxq, zu_k hxq]; exact h2 x (by omega))
    refine ⟨J', fun y hy => by rw [q1 y hy, ju_n hy, ju_n hy, ju_n hy, ju_n hy], q2, ?_⟩
    rw [e_Texts_ofLength_58, jif_f (show ¬ (10 : Int32) ≤ nI q from nI_ge (a := q) (b := 10) (by omega) (by omega)), jin_nI (by omega) (by omega), nI_c (by omega), cond_true, show (0 : Int64) = lN 0 from rfl, show (0 : Int32) = nI 0 from rfl, step 0 0 _ (by omega) (fun y hy => ju_n hy) (zu_at _ _ _ _), step (0 + 1) _ _ (by omega) (fun y hy => by rw [ju_n hy, ju_n hy]) (zu_at _ _ _ _), step (0 + 1 + 1) _ _ (by omega) (fun y hy => by rw [ju_n hy, ju_n hy, ju_n hy]) (zu_at _ _ _ _), e_Texts_ofLength_76, jif_t (show (3 : Int32) ≤ nI (0 + 1 + 1 + 1) by decide), nI_1]
    exact q3
theorem c_of_copy {a n i : Nat} (J : Nat → Nat → Int64) (h : i < n) (hn : n < 100) : jval (d + 1) 117 35 [.ref 13, .ref a, .int (nI n), .int (nI i), jjunk, jjunk] [] (jGs L g, I, J) = jval (d + 1) 117 58 [.ref 13, .ref a, .int (nI n), .int (nI i), .int (nI 0), jjunk] [] (jGs L g, I, jup J 170 (va_cpy (J 169) (J 170) 0 0 10)) := by
  have k3 : (jGs L g).1 169 = 16 := rfl
  have k4 : (jGs L g).1 170 = 16 := rfl
  rw [e_Texts_ofLength_35, jif_f (nI_ge (by omega) (by omega)), if_neg (by rw [k3, k4]; decide), if_pos (by rw [k3, k4]; decide), jb_t.mpr (by decide), Bool.and_self, cond_true, e_Texts_ofLength_55]
  rfl
theorem c_of_35 {a n : Nat} {A : kA} (n3 : a ≠ 169) (n4 : a ≠ 170) (hn : n < 100) : ∀ m i (J : Nat → Nat → Int64), i + m = n → cR L g I J a A → (∀ x, x < 10 → J 169 x = lN (cnt A i x)) → ∃ J', (∀ y, y ≠ 169 → y ≠ 170 → J' y = J y) ∧ jval (d + 1) 117 35 [.ref 13, .ref a, .int (nI n), .int (nI i), jjunk, jjunk] [] (jGs L g, I, J) = some (some (.long (lN (cnt A n 0))), (jGs L g, I, J')) := by
  intro m
  induction m with
  | zero =>
    intro i J hi hA h
    have : i = n := by omega
    subst this
    have hv : J 169 (0 : Int32).toNatClampNeg = lN (cnt A i 0) := h 0 (by omega)
    refine ⟨J, fun _ _ _ => rfl, ?_⟩
    rw [e_Texts_ofLength_35, jif_t (nI_le (Nat.le_refl _) (by omega)), show jin (0 : Int32) 10 = true from jin_nI (n := 0) (by omega) (by omega), cond_true, hv]
  | succ m ih =>
    intro i J hi hA h
    have f : ∀ y, y ≠ 170 → jup J 170 (va_cpy (J 169) (J 170) 0 0 10) y = J y := fun y hy => jup_n hy
    have hc : ∀ x, x < 10 → jup J 170 (va_cpy (J 169) (J 170) 0 0 10) 170 x = lN (cnt A i x) := fun x hx => by
      rw [jup_s]
      unfold va_cpy
      rw [if_pos (by omega), Nat.zero_add, Nat.sub_zero]
      exact h x hx
    obtain ⟨J1, a1, a2, a5⟩ := c_of_58 d L (n := n) (i := i) n3 10 0 _ (by omega) (cR_cg L g hA rfl rfl (f a n4)) hc (fun x hx => absurd hx (by omega))
    obtain ⟨J', q1, q2⟩ := ih (i + 1) J1 (by omega) (cR_cg L g hA rfl rfl ((a1 a n3).trans (f a n4))) a2
    refine ⟨J', fun y y1 y2 => by rw [q1 y y1 y2, a1 y y1, f y y2], ?_⟩
    rw [c_of_copy d L J (by omega) hn, a5]
    exact q2
theorem c_ofLength {J : Nat → Nat → Int64} {a n : Nat} {A : kA} (hA : cR L g I J a A) (hn : n ≤ 20) : ∃ J', (∀ y, y ≠ 169 → y ≠ 170 → J' y = J y) ∧ jcall (d + 2) 117 [.ref 13, .ref a, .int (nI n)] (jGs L g, I, J) = some (some (.long (lN (cnt A n 0))), (jGs L g, I, J')) := by
  have n3 : a ≠ 169 := fun e => by
    have k : gK L g a = 2 := hA.1
    rw [e] at k
    exact absurd k (by show ¬ (16 : Nat) = 2; decide)
  have n4 : a ≠ 170 := fun e => by
    have k : gK L g a = 2 := hA.1
    rw [e] at k
    exact absurd k (by show ¬ (16 : Nat) = 2; decide)
  obtain ⟨J1, b1, b2, b3⟩ := c_of_2 d L (g := g) (n := n) n3 10 0 J (by omega) hA (fun x hx => absurd hx (by omega))
  obtain ⟨J', e1, e2⟩ := c_of_35 d L (g := g) (n := n) n3 n4 (by omega) n 0 J1 (by omega) (cR_cg L g hA rfl rfl (b1 a n3)) b2
  refine ⟨J', fun y y1 y2 => by rw [e1 y y1 y2, b1 y y1], ?_⟩
  rw [c_Texts_ofLength, e_Texts_ofLength_0, show (0 : Int32) = nI 0 from rfl, b3]
  exact e2
end CC

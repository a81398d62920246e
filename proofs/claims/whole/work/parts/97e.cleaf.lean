/-! RUNS, THE CLASS: draws, texts, letters added -/
set_option maxRecDepth 100000
/-- what a run may change -/
def wX (a j : Nat) : Prop := a = 14 ∨ a = 15 ∨ a = 112 ∨ a = 113 ∨ a = 114 ∨ (a = 111 ∧ j ≠ 12)
def eWr (I I' : Nat → Nat → Int32) (J J' : Nat → Nat → Int64) : Prop := (∀ a j, ¬ wX a j → I' a j = I a j) ∧ ∀ a, a ≠ 111 → J' a = J a
theorem eWr_t {I I1 I2 : Nat → Nat → Int32} {J J1 J2 : Nat → Nat → Int64} (h : eWr I I1 J J1) (h' : eWr I1 I2 J1 J2) : eWr I I2 J J2 := ⟨fun a j hx => (h'.1 a j hx).trans (h.1 a j hx), fun a hx => (h'.2 a hx).trans (h.2 a hx)⟩
theorem eWr_r (I : Nat → Nat → Int32) (J : Nat → Nat → Int64) : eWr I I J J := ⟨fun _ _ _ => rfl, fun _ _ => rfl⟩
/-- what stays: the setup -/
def cV (L : Nat) (q : Nat → Nat → Nat) (P : Nat → kA) (D W su sr F : Nat) (g : jG) (I : Nat → Nat → Int32) (J : Nat → Nat → Int64) : Prop := cSu L q P D W su sr F g I J ∧ g.2.2.1 111 1 = some su ∧ pBd 120 q ∧ q 35 8 ≤ 120 ∧ ∀ i, i < 4 → 0 < sm (P i) 220 0
theorem cSu_I {L : Nat} {q : Nat → Nat → Nat} {P : Nat → kA} {D W su sr F : Nat} {g : jG} {I I' : Nat → Nat → Int32} {J J' : Nat → Nat → Int64} (h : cSu L q P D W su sr F g I J) (hI : ∀ a, okS a → I' a = I a ∧ J' a = J a) : cSu L q P D W su sr F g I' J' := cSu_s h (Nat.le_refl _) (fun a ha _ _ => ⟨(hI a ha).1, (hI a ha).2, rfl, rfl, fun _ => rfl, fun h => h⟩)
theorem eWr_S {I I' : Nat → Nat → Int32} {J J' : Nat → Nat → Int64} (hf : eWr I I' J J') : ∀ a, okS a → I' a = I a ∧ J' a = J a := fun a ha => ⟨by
    funext j
    exact hf.1 a j (by unfold okS at ha; unfold wX; omega), hf.2 a (by unfold okS at ha; omega)⟩
theorem cV_f {L : Nat} {q : Nat → Nat → Nat} {P : Nat → kA} {D W su sr F : Nat} {g : jG} {I I' : Nat → Nat → Int32} {J J' : Nat → Nat → Int64} (h : cV L q P D W su sr F g I J) (hf : eWr I I' J J') : cV L q P D W su sr F g I' J' := ⟨cSu_I h.1 (eWr_S hf), h.2⟩
theorem cV_pgC {L : Nat} {q : Nat → Nat → Nat} {P : Nat → kA} {D W su sr F p : Nat} {g : jG} {I : Nat → Nat → Int32} {J : Nat → Nat → Int64} (h : cV L q P D W su sr F g I J) (hp : gR L g su 1 = some p) : ∃ cc, pgC L g I p cc (q 35 8) (q 38) := by
  obtain ⟨p', e, h1, -⟩ := h.1.2.2.2.2.2.2
  rw [hp] at e
  cases e
  obtain ⟨o1, o2, o3, o4, ⟨cr, c1, c2, c3, c4, c5, c6⟩, -⟩ := h1
  exact ⟨cr, o3, c1, c4, c5, h.2.2.2.1, fun i hi => ⟨c6 i hi, trivial⟩⟩
/-- the letters that are being made -/
def mC (o : Option (List Nat)) (I : Nat → Nat → Int32) : Prop := match o with
  | some w => w.length ≤ 40 ∧ I 111 9 = nI w.length ∧ (∀ x, x < w.length → I 114 x = nI (w.getD x 0)) ∧ I 111 4 = 0
  | none => I 111 4 = 1
section CC
variable (d L : Nat) (g : jG)
theorem c_draw {I : Nat → Nat → Int32} {J : Nat → Nat → Int64} {x n : Nat} (hx : x < 2147483648) (hJ : J 111 2 = lN x) (h0 : 0 < n) (hn : n < 100) : jcall (d + 1) 92 [.ref 111, .int (nI n)] (jGs L g, I, J) = some (some (.int (nI (uDr x / 65536 % n))), (jGs L g, I, ju J 111 2 (lN (uDr x)))) := by
  have e1 : J 111 2 * (1103515245 : Int64) + (12345 : Int64) = lN (x * 1103515245 + 12345) := by
    rw [hJ, show (1103515245 : Int64) = lN 1103515245 from rfl, show (12345 : Int64) = lN 12345 from rfl, lN_mul, lN_add]
  have hu := uDr_lt x
  have e2 : lN (x * 1103515245 + 12345) &&& (2147483647 : Int64) = lN (uDr x) := by
    rw [show (2147483647 : Int64) = lN (2 ^ 31 - 1) from rfl, zl_and, Nat.and_two_pow_sub_one_eq_mod, uDr_eq]
  have hn' : (nI n).toInt64 = lN n := nI_l (by omega)
  have e3 : lN (uDr x) / (65536 : Int64) = lN (uDr x / 65536) := by
    rw [show (65536 : Int64) = lN 65536 from rfl, pk_lDiv (by omega) (by omega) (by omega)]
  have e4 : lN (uDr x / 65536) - lN (uDr x / 65536) / lN n * lN n = lN (uDr x / 65536 % n) := pk_lRem (by omega) h0 (by omega)
  have z : ¬ lN n = (0 : Int64) := fun e => by
    have := (pk_lEQ (a := n) (b := 0) (by omega) (by omega)).mp e
    omega
  rw [c_Runner_draw, e_Runner_draw_0, e1, e2, e3, hn', e4, jif_f (show ¬ nI n ≤ (0 : Int32) from nI_ge (a := 0) (by omega) (by omega)), jif_f (by decide), jif_f z, lN_i, e_Runner_draw_40]
theorem c_lengthOf {I : Nat → Nat → Int32} {J : Nat → Nat → Int64} {v : Nat} (hv : v < 4) : jcall (d + 1) 93 [.ref 111, .int (nI v)] (jGs L g, I, J) = some (some (.int (I 113 v)), (jGs L g, I, J)) := by
  rw [c_Runner_lengthOf, e_Runner_lengthOf_0, jif_f (nI_pos (by omega)), jif_f (show ¬ (4 : Int32) ≤ nI v from nI_ge (b := 4) (by omega) (by omega)), jin_nI (by omega) (by omega), cond_true, nI_c (by omega), e_Runner_lengthOf_19]
theorem c_letterOf {I : Nat → Nat → Int32} {J : Nat → Nat → Int64} {v i : Nat} (hv : 40 * v + i < 160) : jcall (d + 1) 94 [.ref 111, .int (nI v), .int (nI i)] (jGs L g, I, J) = some (some (.int (I 112 (40 * v + i))), (jGs L g, I, J)) := by
  have e : nI v * (40 : Int32) + nI i = nI (40 * v + i) := by rw [show (40 : Int32) = nI 40 from rfl, nI_mul, nI_add, Nat.mul_comm]
  rw [c_Runner_letterOf, e_Runner_letterOf_0, e, jif_f (nI_pos (by omega)), jif_f (show ¬ Int32.ofNat 160 ≤ nI (40 * v + i) from nI_ge (b := 160) (by omega) (by omega)), jin_nI (by omega) (by omega), cond_true, nI_c (by omega), e_Runner_letterOf_30]
theorem c_passes {q : Nat → Nat → Nat} {P : Nat → kA} {D W su sr F n v i : Nat} {V : Nat → List Nat} {I : Nat → Nat → Int32} {J : Nat → Nat → Int64} (h : cV L q P D W su sr F g I J) (hT : uT V 113 112 I) (kn : gK L g n = 4) (h1 : I n 1 = nI v) (h2 : I n 2 = nI i) (hv : v < 4) (hi : i < 4) : jcall (d + 3) 95 [.ref 111, .ref n] (jGs L g, I, J) = some (some (.int (bI (kL (P i) 0 (V v)))), (jGs L g, I, J)) := by
  obtain ⟨x, x1, x2, x3, x4⟩ := c_patternAt (d + 1) L g h.1 hi
  obtain ⟨t1, t2, t3, t4⟩ := hT v hv
  have k4 : (jGs L g).1 n = 4 := kn
  have k9 : (jGs L g).1 su = 9 := h.1.2.2.1
  have k2 : (jGs L g).1 x = 2 := x1.1
  have hV := x1.2.1
  generalize hw : V v = w at *
  have loop : ∀ m j r, j + m = w.length → r < (P i).1 → kL (P i) r (w.drop j) = kL (P i) 0 w → jval (d + 2) 95 17 [.ref 111, .ref n, .ref x, .int (nI r), .int (nI j)] [] (jGs L g, I, J) = some (some (.int (bI (kL (P i) 0 w))), (jGs L g, I, J)) := by
    intro m
    induction m with
    | zero =>
      intro j r hj hr he
      rw [List.drop_eq_nil_of_le (by omega)] at he
      have he' : (P i).2.1 r = kL (P i) 0 w := he
      have := hV.2.1
      rw [e_Runner_passes_17a, if_pos k4, h1, c_lengthOf (d + 1) L g hv, jcI_some, e_Runner_passes_27a, t3, jif_t (nI_le (by omega) (by omega)), if_pos k2, c_isEnd (d + 1) L g x1 (show r < 32 by omega), jcI_some, he', e_Runner_passes_57, jif_t (by cases kL (P i) 0 w <;> decide)]
    | succ m ih =>
      intro j r hj hr he
      have w3 := kW_get t2 (show j < w.length by omega)
      have := hV.2.1
      rw [drop_c (show j < w.length by omega)] at he
      rw [e_Runner_passes_17a, if_pos k4, h1, c_lengthOf (d + 1) L g hv, jcI_some, e_Runner_passes_27a, t3, jif_f (nI_ge (by omega) (by omega)), if_pos k4, h1, c_letterOf (d + 1) L g (by omega), jcI_some, t4 j (by omega), e_Runner_passes_42a, if_pos k2, c_to (d + 1) L g x1 (show r < 10 by omega) w3, jcI_some, e_Runner_passes_45, nI_1]
      exact ih (j + 1) _ (by omega) (hV.1.1.2 r hr _ w3) he
  rw [c_Runner_passes, e_Runner_passes_0, h.2.1, jo_some, if_pos k4, if_pos k9, h2, x4, jcR_some, e_Runner_passes_11a, show (0 : Int32) = nI 0 from rfl]
  exact loop w.length 0 0 (by omega) hV.1.1.1 rfl
theorem c_append {I : Nat → Nat → Int32} {J : Nat → Nat → Int64} {w : List Nat} {l : Nat} (h : mC (some w) I) (hl : l < 128) : ∃ I', (∀ a j, ¬ (a = 114 ∨ (a = 111 ∧ (j = 4 ∨ j = 9))) → I' a j = I a j) ∧ mC (uAd (some w) l) I' ∧ jcall (d + 1) 97 [.ref 111, .int (nI l)] (jGs L g, I, J) = some (none, (jGs L g, I', J)) := by
  obtain ⟨h1, h2, h3, h4⟩ := h
  by_cases h40 : w.length < 40
  · have hl' : (w ++ [l]).length = w.length + 1 := by simp
    refine ⟨ju (ju I 114 w.length (nI l)) 111 9 (nI (w.length + 1)), fun a j hx => by rw [ju_ne (by omega), ju_ne (by omega)], ?_, ?_⟩
    · show mC (if w.length < 40 then some (w ++ [l]) else none) _
      rw [if_pos h40]
      refine ⟨by omega, by rw [zu_at, hl'], fun x hx => ?_, by rw [zu_k (by omega), zu_a (by omega)]; exact h4⟩
      rw [zu_a (by omega), getD_app]
      by_cases e : x < w.length
      · rw [zu_k (by omega), if_pos e]
        exact h3 x e
      · have : x = w.length := by omega
        subst this
        rw [zu_at, if_neg e, Nat.sub_self]
        rfl
    · rw [c_Runner_append, e_Runner_append_0, h2, jif_t (show nI w.length < Int32.ofNat 40 from Eq.mpr (zi_lt (b := 40) (by omega) (by omega)) h40), jin_nI (by omega) (by omega), cond_true, nI_c (by omega), zi_b hl, zi_b hl, nI_1, e_Runner_append_41]
  · refine ⟨ju I 111 4 1, fun a j hx => ju_ne (by omega), ?_, ?_⟩
    · show mC (if w.length < 40 then some (w ++ [l]) else none) _
      rw [if_neg h40]
      exact zu_at _ _ _ _
    · rw [c_Runner_append, e_Runner_append_0, h2, jif_f (show ¬ nI w.length < Int32.ofNat 40 from fun e => h40 (Eq.mp (zi_lt (b := 40) (by omega) (by omega)) e)), jif_t (Or.inr rfl), e_Runner_append_41]
theorem c_aV_2 {J : Nat → Nat → Int64} {V : Nat → List Nat} {v : Nat} (hv : v < 4) : ∀ m i o (I : Nat → Nat → Int32), i + m = (V v).length → uT V 113 112 I → mC o I → ∃ I', (∀ a j, ¬ (a = 114 ∨ (a = 111 ∧ (j = 4 ∨ j = 9))) → I' a j = I a j) ∧ mC (uAdL o ((V v).drop i)) I' ∧ jval (d + 2) 99 2 [.ref 111, .int (nI v), .int (nI i)] [] (jGs L g, I, J) = some (none, (jGs L g, I', J)) := by
  intro m
  induction m with
  | zero =>
    intro i o I hi hT hm
    obtain ⟨t1, t2, t3, t4⟩ := hT v hv
    refine ⟨I, fun _ _ _ => rfl, by rw [List.drop_eq_nil_of_le (by omega)]; exact hm, ?_⟩
    rw [e_Runner_appendVariable_2, c_lengthOf (d + 1) L g hv, jcI_some, e_Runner_appendVariable_8, t3, jif_t (nI_le (by omega) (by omega)), e_Runner_appendVariable_34]
  | succ m ih =>
    intro i o I hi hT hm
    obtain ⟨t1, t2, t3, t4⟩ := hT v hv
    cases o with
    | none =>
      have hm' : I 111 4 = 1 := hm
      refine ⟨I, fun _ _ _ => rfl, by rw [uAdL_none]; exact hm, ?_⟩
      rw [e_Runner_appendVariable_2, c_lengthOf (d + 1) L g hv, jcI_some, e_Runner_appendVariable_8, t3, jif_f (nI_ge (by omega) (by omega)), jif_f (by rw [hm']; decide), e_Runner_appendVariable_34]
    | some w =>
      have w3 := kW_get t2 (show i < (V v).length by omega)
      obtain ⟨I1, a1, a2, a3⟩ := c_append (d + 1) L g (J := J) (l := (V v).getD i 0) hm (by omega)
      obtain ⟨I', b1, b2, b3⟩ := ih (i + 1) _ I1 (by omega) (uT_cg hT (fun j => a1 _ _ (by omega)) (fun j => a1 _ _ (by omega))) a2
      refine ⟨I', fun a j hx => (b1 a j hx).trans (a1 a j hx), by rw [drop_c (show i < (V v).length by omega)]; exact b2, ?_⟩
      rw [e_Runner_appendVariable_2, c_lengthOf (d + 1) L g hv, jcI_some, e_Runner_appendVariable_8, t3, jif_f (nI_ge (by omega) (by omega)), jif_t (show I 111 4 = 0 from hm.2.2.2), c_letterOf (d + 1) L g (by omega), jcI_some, t4 i (by omega), e_Runner_appendVariable_25, a3, jcV_some, e_Runner_appendVariable_28, nI_1]
      exact b3
theorem c_aA_28 {J : Nat → Nat → Int64} {u : List Nat} (hu : kW u) (hl : u.length < 220) : ∀ m i o (I : Nat → Nat → Int32), i + m = u.length → (∀ x, x < u.length → I 15 x = nI (u.getD x 0)) → mC o I → ∃ I', (∀ a j, ¬ (a = 114 ∨ (a = 111 ∧ (j = 4 ∨ j = 9))) → I' a j = I a j) ∧ mC (uAdL o (u.drop i)) I' ∧ jval (d + 2) 98 28 [.ref 111, jjunk, jjunk, .int (nI u.length), .int (nI i)] [] (jGs L g, I, J) = some (none, (jGs L g, I', J)) := by
  intro m
  induction m with
  | zero =>
    intro i o I hi hT hm
    refine ⟨I, fun _ _ _ => rfl, by rw [List.drop_eq_nil_of_le (by omega)]; exact hm, ?_⟩
    rw [e_Runner_appendAny_28, jif_t (nI_le (by omega) (by omega)), e_Runner_appendAny_60]
  | succ m ih =>
    intro i o I hi hT hm
    cases o with
    | none =>
      have hm' : I 111 4 = 1 := hm
      refine ⟨I, fun _ _ _ => rfl, by rw [uAdL_none]; exact hm, ?_⟩
      rw [e_Runner_appendAny_28, jif_f (nI_ge (by omega) (by omega)), jif_f (by rw [hm']; decide), e_Runner_appendAny_60]
    | some w =>
      have w3 := kW_get hu (show i < u.length by omega)
      obtain ⟨I1, a1, a2, a3⟩ := c_append (d + 1) L g (J := J) (l := u.getD i 0) hm (by omega)
      obtain ⟨I', b1, b2, b3⟩ := ih (i + 1) _ I1 (by omega) (fun x hx => by rw [a1 _ _ (by omega)]; exact hT x hx) a2
      refine ⟨I', fun a j hx => (b1 a j hx).trans (a1 a j hx), by rw [drop_c (show i < u.length by omega)]; exact b2, ?_⟩
      rw [e_Runner_appendAny_28, jif_f (nI_ge (by omega) (by omega)), jif_t (show I 111 4 = 0 from hm.2.2.2), c_letter (d + 1) L g (by omega), jcI_some, hT i (by omega), e_Runner_appendAny_51, a3, jcV_some, e_Runner_appendAny_54, nI_1]
      exact b3
theorem fTg_W {A : kA} : ∀ f n j w, fTg A f n j = some w → kW w := by
  intro f
  induction f with
  | zero => intro n j w h; cases h
  | succ f ih =>
    intro n j w h
    rw [show fTg A (f + 1) n j = (if j < cnt A n 0 then some (spl A n 0 j) else fTg A f (n + 1) (j - cnt A n 0)) from rfl] at h
    split at h
    · cases h; exact spl_W A n 0 j
    · exact ih _ _ _ h
theorem c_appendAny {I : Nat → Nat → Int32} {J : Nat → Nat → Int64} {a x : Nat} {A : kA} {w : List Nat} (hA : cR L g I J a A) (ha : a ≠ 111 ∧ a ≠ 14 ∧ a ≠ 15) (h0 : 0 < sm A 220 0) (hx : x < 2147483648) (hJ : J 111 2 = lN x) (hm : mC (some w) I) : ∃ I', (∀ b j, ¬ (b = 14 ∨ b = 15 ∨ b = 114 ∨ (b = 111 ∧ (j = 4 ∨ j = 9))) → I' b j = I b j) ∧ mC (uAdL (some w) ((fT A (uDr x / 65536 % min (sm A 220 0) 8)).getD [])) I' ∧ kW ((fT A (uDr x / 65536 % min (sm A 220 0) 8)).getD []) ∧ jcall (d + 6) 98 [.ref 111, .ref a] (jGs L g, I, J) = some (none, (jGs L g, I', ju J 111 2 (lN (uDr x)))) := by
  obtain ⟨I1, a1, a2⟩ := c_upTo (d + 1) L g (J := J) (mo := 8) hA (by omega)
  have hd := c_draw (d + 4) L g (I := I1) hx hJ (show 0 < min (sm A 220 0) 8 by omega) (by omega)
  have hlt : uDr x / 65536 % min (sm A 220 0) 8 < min (sm A 220 0) 8 := Nat.mod_lt _ (by omega)
  generalize uDr x / 65536 % min (sm A 220 0) 8 = j at *
  have A1 : cR L g I1 (ju J 111 2 (lN (uDr x))) a A := cR_cg L g hA rfl (a1 a ha.2.1) (ju_n ha.1)
  obtain ⟨I2, b1, b2⟩ := c_find (d + 1) L g (J := ju J 111 2 (lN (uDr x))) (j := j) A1 (by omega)
  have hi : fT A j = none ↔ sm A 220 0 ≤ j := fTg_iff 220 0 j
  have o2 : ∀ b, b ≠ 14 → b ≠ 15 → I2 b = I b := fun b h1 h2 => (b1 b h1 h2).trans (a1 b h1)
  rcases b2 with ⟨u, c1, c2, c3, c4⟩ | ⟨c1, c2⟩
  · have hW := fTg_W _ _ _ _ c1
    have hm2 : mC (some w) I2 := by
      obtain ⟨m1, m2, m3, m4⟩ := hm
      exact ⟨m1, by rw [o2 111 (by omega) (by omega)]; exact m2, fun x hx => by rw [o2 114 (by omega) (by omega)]; exact m3 x hx, by rw [o2 111 (by omega) (by omega)]; exact m4⟩
    obtain ⟨I', e1, e2, e3⟩ := c_aA_28 (d + 3) L g (J := ju J 111 2 (lN (uDr x))) hW c2 u.length 0 _ I2 (by omega) c3 hm2
    refine ⟨I', fun b y hn => by rw [e1 b y (by omega), o2 b (by omega) (by omega)], by rw [c1]; exact e2, by rw [c1]; exact hW, ?_⟩
    rw [c_Runner_appendAny, e_Runner_appendAny_0, show (8 : Int32) = nI 8 from rfl, a2, jcI_some, e_Runner_appendAny_11, hd, jcI_some, e_Runner_appendAny_14, c4, jcI_some, e_Runner_appendAny_24, show (0 : Int32) = nI 0 from rfl]
    exact e3
  · have := hi.mp c1
    omega
theorem c_keepFresh {I : Nat → Nat → Int32} {J : Nat → Nat → Int64} {V : Nat → List Nat} {w : List Nat} {v : Nat} (hv : v < 4) (hT : uT V 113 112 I) (hm : mC (some w) I) (hw : kW w) : ∃ I', (∀ a j, a ≠ 112 → a ≠ 113 → I' a j = I a j) ∧ uT (jup V v w) 113 112 I' ∧ jcall (d + 1) 100 [.ref 111, .int (nI v)] (jGs L g, I, J) = some (none, (jGs L g, I', J)) := by
  obtain ⟨m1, m2, m3, m4⟩ := hm
  have e40 : nI v * (40 : Int32) = nI (v * 40) := by rw [show (40 : Int32) = nI 40 from rfl, nI_mul]
  refine ⟨ju (jup I 112 (va_cpy (I 114) (I 112) 0 (v * 40) w.length)) 113 v (nI w.length), fun a j h1 h2 => by rw [zu_a h2, jup_n h1], uT_up hT hv m1 hw (zu_at _ _ _ _) (fun x hx => ?_) (fun j hj => by rw [zu_k hj, jup_n (by omega)]) (fun j hj => ?_), ?_⟩
  · rw [zu_a (by omega), jup_s]
    unfold va_cpy
    rw [if_pos ⟨by omega, by omega⟩, show 0 + (40 * v + x - v * 40) = x by omega]
    exact m3 x hx
  · rw [zu_a (by omega), jup_s]
    unfold va_cpy
    rw [if_neg (by omega)]
  · rw [c_Runner_keepFresh, e_Runner_keepFresh_0, jif_f (nI_pos (by omega)), jif_f (show ¬ (4 : Int32) ≤ nI v from nI_ge (b := 4) (by omega) (by omega)), if_pos ⟨Or.inl ⟨rfl, rfl⟩, by omega⟩, e40, m2, nI_c (by omega), nI_c (by omega), show (0 : Int32).toNatClampNeg = 0 from rfl, jb_t.mpr ⟨nI_pos' (by omega), by decide, nI_pos' (by omega), by omega, by omega⟩, Bool.and_self, cond_true, e_Runner_keepFresh_29, jin_nI (by omega) (by omega), cond_true, nI_c (by omega), jup_n (show (111 : Nat) ≠ 112 by omega), m2, e_Runner_keepFresh_39]
theorem c_countStep {I : Nat → Nat → Int32} {J : Nat → Nat → Int64} {n : Nat} (h3 : I 111 3 = nI n) (h4 : I 111 4 = 0) (hn : n ≤ 100) : jcall (d + 1) 90 [.ref 111] (jGs L g, I, J) = if n < 100 then some (some (.int (1 : Int32)), (jGs L g, ju I 111 3 (nI (n + 1)), J)) else some (some (.int (0 : Int32)), (jGs L g, ju I 111 4 1, J)) := by
  rw [c_Runner_countStep, e_Runner_countStep_0, h3]
  by_cases h : n < 100
  · rw [if_pos h, jif_t (show nI n < (100 : Int32) from Eq.mpr (zi_lt (b := 100) (by omega) (by omega)) h), nI_1, e_Runner_countStep_27, jif_t (by rw [zu_k (by omega)]; exact h4), e_Runner_countStep_39, jif_t (Or.inr rfl)]
  · rw [if_neg h, jif_f (show ¬ nI n < (100 : Int32) from fun e => h (Eq.mp (zi_lt (b := 100) (by omega) (by omega)) e)), jif_t (Or.inr rfl), e_Runner_countStep_27, jif_f (by rw [zu_at]; decide), e_Runner_countStep_39, jif_t (Or.inl rfl)]
end CC

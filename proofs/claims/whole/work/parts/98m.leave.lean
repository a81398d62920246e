/-! TOP: a setup is left -/
set_option maxRecDepth 100000
def tChg (T : zT) (z' : zS) : zT := (T.1, T.2.1, T.2.2.1, z', (if T.2.2.2.2.1 < 6 then T.2.2.2.2.1 + 1 else 6), (fun i => if T.2.2.2.2.1 < 6 then (if i = T.2.2.2.2.1 then T.2.2.2.1 else T.2.2.2.2.2.1 i) else if i = 5 then T.2.2.2.1 else T.2.2.2.2.2.1 (i + 1)), T.2.2.2.2.2.2)
theorem tChg_W {T : zT} {z' : zS} (h : zWf T) (hz : zOk z') : zWf (tChg T z') := by
  obtain ⟨h1, h2, h3, h4, h5⟩ := h
  refine ⟨h1, hz, ?_, fun i hi => ?_, h5⟩
  · show (if T.2.2.2.2.1 < 6 then T.2.2.2.2.1 + 1 else 6) ≤ 6
    split <;> omega
  · have hi' : i < (if T.2.2.2.2.1 < 6 then T.2.2.2.2.1 + 1 else 6) := hi
    show zOk (if T.2.2.2.2.1 < 6 then (if i = T.2.2.2.2.1 then T.2.2.2.1 else T.2.2.2.2.2.1 i) else if i = 5 then T.2.2.2.1 else T.2.2.2.2.2.1 (i + 1))
    by_cases hK : T.2.2.2.2.1 < 6
    · rw [if_pos hK] at hi' ⊢
      by_cases e : i = T.2.2.2.2.1
      · rw [if_pos e]; exact h2
      · rw [if_neg e]; exact h4 i (by omega)
    · rw [if_neg hK] at hi' ⊢
      by_cases e : i = 5
      · rw [if_pos e]; exact h2
      · rw [if_neg e]; exact h4 (i + 1) (by omega)
def saC (sa : Nat → Nat) (su K i : Nat) : Nat := if K < 6 then (if i = K then su else sa i) else if i = 5 then su else sa (i + 1)
theorem r12_0 {k : Nat} (hk : k < 6) : jr0 12 k = 0 := by
  have hc : k = 0 ∨ k = 1 ∨ k = 2 ∨ k = 3 ∨ k = 4 ∨ k = 5 := by omega
  rcases hc with e | e | e | e | e | e <;> subst e <;> rfl
theorem c_shift (d L : Nat) {I : Nat → Nat → Int32} {J : Nat → Nat → Int64} {a1 : Nat} : ∀ f i (g : jG), i + f = 6 → 1 ≤ i → (∀ j, i ≤ j → j < 6 → ∃ b, g.2.2.1 12 j = some b ∧ gK L g b = 9) → ∃ g', g'.1 = g.1 ∧ g'.2.1 = g.2.1 ∧ g'.2.2.2 = g.2.2.2 ∧ (∀ a k, a ≠ 12 → g'.2.2.1 a k = g.2.2.1 a k) ∧ (∀ j, j < 5 → g'.2.2.1 12 j = if i - 1 ≤ j then g.2.2.1 12 (j + 1) else g.2.2.1 12 j) ∧ jval d 148 14 [.ref 1, .ref a1, .int (nI i)] [] (jGs L g, I, J) = jval d 148 54 [.ref 1, .ref a1, jjunk] [] (jGs L g', ju I 1 4 (nI 5), J) := by
  intro f
  induction f with
  | zero =>
    intro i g hi h1 hb
    refine ⟨g, rfl, rfl, rfl, fun _ _ _ => rfl, fun j hj => by rw [if_neg (by omega)], ?_⟩
    rw [e_TextValues_change_14, jif_t (show Int32.ofNat 6 ≤ nI i from nI_le (a := 6) (by omega) (by omega))]; rfl
  | succ f ih =>
    intro i g hi h1 hb
    obtain ⟨b, b1, b2⟩ := hb i (by omega) (by omega)
    have w : ∀ a k, (jgsR g 12 (i - 1) (some b)).2.2.1 a k = if a = 12 ∧ k = i - 1 then some b else g.2.2.1 a k := fun a k => by
      show ju g.2.2.1 12 (i - 1) (some b) a k = _
      by_cases e : a = 12 ∧ k = i - 1
      · rw [if_pos e, e.1, e.2, zu_at]
      · rw [if_neg e, ju_ne (by omega)]
    obtain ⟨g', k1, k2, k3, k4, k5, k6⟩ := ih (i + 1) (jgsR g 12 (i - 1) (some b)) (by omega) (by omega) (fun j y1 y2 => by
      obtain ⟨c, c1, c2⟩ := hb j (by omega) y2
      exact ⟨c, by rw [w, if_neg (by omega)]; exact c1, c2⟩)
    refine ⟨g', k1, k2, k3, fun a k ha => by rw [k4 a k ha, w, if_neg (by omega)], fun j hj => ?_, ?_⟩
    · rw [k5 j hj, w, w]
      by_cases e1 : i ≤ j
      · rw [if_pos (by omega), if_neg (by omega), if_pos (by omega)]
      · rw [if_neg (by omega)]
        by_cases e2 : j = i - 1
        · rw [if_pos ⟨rfl, e2⟩, if_pos (by omega), show j + 1 = i by omega, b1]
        · rw [if_neg (by omega), if_neg (by omega)]
    · rw [e_TextValues_change_14, jif_f (show ¬ Int32.ofNat 6 ≤ nI i from nI_ge (b := 6) (by omega) (by omega)), jin_nI (by omega) (by omega), cond_true, nI_c (by omega), show (jGs L g).2.2.1 12 i = some b from (gR_dyn (L := L) (r12_0 (by omega))).trans b1, jo_some, if_pos (show (jGs L g).1 b = 9 from b2), show nI i - (1 : Int32) = nI (i - 1) from zi_sub (b := 1) (by omega), jin_nI (by omega) (by omega), cond_true, nI_c (by omega), jGs_R (r12_0 (by omega)), e_TextValues_change_37, nI_1]
      exact k6
theorem c_chg (d L : Nat) (g : jG) {T : zT} {z' : zS} {su su' sr : Nat} {sa : Nat → Nat} {PC PQ : Nat} {I : Nat → Nat → Int32} {J : Nat → Nat → Int64} (h : cI L T su sr sa PC PQ g I J) (hw : zWf T) (hz : cSz L z' su' sr g I J) (hlt : su < su') : ∃ g' I', cI L (tChg T z') su' sr (saC sa su T.2.2.2.2.1) PC PQ g' I' J ∧ (∀ a, a ≠ 1 → I' a = I a) ∧ (∀ a, gK L g' a = gK L g a) ∧ jcall (d + 1) 148 [.ref 1, .ref su'] (jGs L g, I, J) = some (none, (jGs L g', I', J)) := by
  have rm := cI_room h
  obtain ⟨⟨t1, t2⟩, ⟨t3, t4, t5⟩, hA, ⟨h6, h7⟩, ⟨h8, h9⟩, h10, h11⟩ := h
  obtain ⟨⟨m1, m2⟩, m3, m4, m5, m6, m7, m8⟩ := id hA
  have h168 := mkI_C m1
  have hK6 := hw.2.2.1
  have key : ∃ g1 I1, g1.1 = g.1 ∧ g1.2.1 = g.2.1 ∧ g1.2.2.2 = g.2.2.2 ∧ (∀ a k, a ≠ 12 → g1.2.2.1 a k = g.2.2.1 a k) ∧ (∀ i, i < (if T.2.2.2.2.1 < 6 then T.2.2.2.2.1 else 5) → g1.2.2.1 12 i = some (saC sa su T.2.2.2.2.1 i)) ∧ (∀ a j, ¬ (a = 1 ∧ j = 4) → I1 a j = I a j) ∧ I1 1 4 = nI (if T.2.2.2.2.1 < 6 then T.2.2.2.2.1 else 5) ∧ jcall (d + 1) 148 [.ref 1, .ref su'] (jGs L g, I, J) = jval d 148 54 [.ref 1, .ref su', jjunk] [] (jGs L g1, I1, J) := by
    by_cases hK : T.2.2.2.2.1 < 6
    · refine ⟨g, I, rfl, rfl, rfl, fun _ _ _ => rfl, fun i hi => ?_, fun _ _ _ => rfl, by rw [if_pos hK]; exact h8, ?_⟩
      · rw [if_pos hK] at hi
        unfold saC
        rw [if_pos hK, if_neg (by omega)]
        exact (h9 i hi).1
      · rw [c_TextValues_change, e_TextValues_change_0, h8, jif_t (show nI T.2.2.2.2.1 < Int32.ofNat 6 from Eq.mpr (zi_lt (b := 6) (by omega) (by omega)) hK)]
    · obtain ⟨g1, k1, k2, k3, k4, k5, k6⟩ := c_shift d L (I := I) (J := J) (a1 := su') 5 1 g (by omega) (by omega) (fun j _ y2 => ⟨_, (h9 j (by omega)).1, (h9 j (by omega)).2.1.1.2.2.1⟩)
      refine ⟨g1, ju I 1 4 (nI 5), k1, k2, k3, k4, fun i hi => ?_, fun a j hx => ju_ne (by omega), by rw [if_neg hK]; exact zu_at _ _ _ _, ?_⟩
      · rw [if_neg hK] at hi
        unfold saC
        rw [k5 i hi, if_pos (by omega), if_neg hK, if_neg (by omega)]
        exact (h9 (i + 1) (by omega)).1
      · rw [c_TextValues_change, e_TextValues_change_0, h8, jif_f (show ¬ nI T.2.2.2.2.1 < Int32.ofNat 6 from fun e => hK (Eq.mp (zi_lt (b := 6) (by omega) (by omega)) e))]
        exact k6
  obtain ⟨g1, I1, k1, k2, k3, k4, k5, k6, k7, k8⟩ := key
  generalize hKK : (if T.2.2.2.2.1 < 6 then T.2.2.2.2.1 else 5) = K1 at k5 k7
  have hK1 : K1 ≤ 5 := by rw [← hKK]; split <;> omega
  have kk : ∀ a, gK L g1 a = gK L g a ∧ gN L g1 a = gN L g a := fun a => by
    constructor
    · show (jGs L g1).1 a = (jGs L g).1 a
      unfold jGs; rw [k1]
    · show (jGs L g1).2.1 a = (jGs L g).2.1 a
      unfold jGs; rw [k2]
  have k9 : gK L g su = 9 := h7.1.2.2.1
  have w : ∀ a k, (jgsR (jgsR g1 12 K1 (some su)) 1 2 (some su')).2.2.1 a k = if a = 1 ∧ k = 2 then some su' else if a = 12 ∧ k = K1 then some su else g1.2.2.1 a k := fun a k => by
    show ju (ju g1.2.2.1 12 K1 (some su)) 1 2 (some su') a k = _
    by_cases e : a = 1 ∧ k = 2
    · rw [if_pos e, e.1, e.2, zu_at]
    · rw [if_neg e, ju_ne (by omega)]
      by_cases e2 : a = 12 ∧ k = K1
      · rw [if_pos e2, e2.1, e2.2, zu_at]
      · rw [if_neg e2, ju_ne (by omega)]
  have kk2 : ∀ a, gK L (jgsR (jgsR g1 12 K1 (some su)) 1 2 (some su')) a = gK L g a ∧ gN L (jgsR (jgsR g1 12 K1 (some su)) 1 2 (some su')) a = gN L g a := kk
  have hC2 : (jgsR (jgsR g1 12 K1 (some su)) 1 2 (some su')).2.2.2 = g.2.2.2 := k3
  generalize hg2 : jgsR (jgsR g1 12 K1 (some su)) 1 2 (some su') = g2 at w kk2 hC2
  have R : ∀ a k, a ≤ g.2.2.2.1 → (okS a ∨ a = 19 ∨ a = 39) → g2.2.2.1 a k = g.2.2.1 a k := fun a k _ ha => by
    rw [w, if_neg (by unfold okS at ha; omega), if_neg (by unfold okS at ha; omega)]
    exact k4 a k (by unfold okS at ha; omega)
  have I2 : ∀ a, a ≠ 1 → ju I1 1 4 (I1 1 4 + 1) a = I a := fun a ha => by
    rw [ju_n ha]; exact funext (fun j => k6 a j (by omega))
  have S : ∀ z s, cSz L z s sr g I J → cSz L z s sr g2 (ju I1 1 4 (I1 1 4 + 1)) J := fun z s hs => cSz_B hs m1 m4 (fun a _ => kk2 a) R (by rw [hC2]; exact Nat.le_refl _) (fun a _ ha => ⟨I2 a (by unfold okS at ha; omega), rfl⟩)
  have e1 : ∀ j, j ≠ 4 → ju I1 1 4 (I1 1 4 + 1) 1 j = I 1 j := fun j hj => by rw [zu_k hj]; exact k6 1 j (by omega)
  refine ⟨g2, ju I1 1 4 (I1 1 4 + 1), ⟨⟨by rw [e1 1 (by omega)]; exact t1, fun i hi => by rw [I2 2 (by omega)]; exact t2 i hi⟩, ⟨by rw [e1 5 (by omega)]; exact t3, by rw [e1 6 (by omega)]; exact t4, by rw [e1 7 (by omega)]; exact t5⟩, cA_B (dc := 0) (dq := 0) hA (fun a _ => kk2 a) R (by rw [hC2]; rfl) (by rw [hC2]; rfl) rm.1 rm.2 (fun a _ hm => I2 a (fun e => m2 a (by omega) (by omega) hm)), ⟨by rw [w, if_pos ⟨rfl, rfl⟩], S _ _ hz⟩, ⟨?_, fun i hi => ?_⟩, uT_cg h10 (fun j => by rw [I2 116 (by omega)]) (fun j => by rw [I2 115 (by omega)]), by rw [I2 111 (by omega)]; exact h11⟩, I2, fun a => (kk2 a).1, ?_⟩
  · show ju I1 1 4 (I1 1 4 + 1) 1 4 = nI (if T.2.2.2.2.1 < 6 then T.2.2.2.2.1 + 1 else 6)
    rw [zu_at, k7, nI_1, ← hKK]
    by_cases hK : T.2.2.2.2.1 < 6
    · rw [if_pos hK, if_pos hK]
    · rw [if_neg hK, if_neg hK]
  · have hi' : i < (if T.2.2.2.2.1 < 6 then T.2.2.2.2.1 + 1 else 6) := hi
    have hi2 : i ≤ K1 := by
      rw [← hKK]
      by_cases hK : T.2.2.2.2.1 < 6
      · rw [if_pos hK] at hi' ⊢; omega
      · rw [if_neg hK] at hi' ⊢; omega
    have eK : saC sa su T.2.2.2.2.1 K1 = su := by
      unfold saC
      rw [← hKK]
      by_cases hK : T.2.2.2.2.1 < 6
      · rw [if_pos hK, if_pos hK, if_pos rfl]
      · rw [if_neg hK, if_neg hK, if_pos rfl]
    have lo : ∀ j, j < K1 → ∃ m, m < T.2.2.2.2.1 ∧ saC sa su T.2.2.2.2.1 j = sa m ∧ (tChg T z').2.2.2.2.2.1 j = T.2.2.2.2.2.1 m ∧ m = (if T.2.2.2.2.1 < 6 then j else j + 1) := by
      intro j hj
      rw [← hKK] at hj
      unfold saC
      by_cases hK : T.2.2.2.2.1 < 6
      · rw [if_pos hK] at hj
        refine ⟨j, by omega, by rw [if_pos hK, if_neg (by omega)], ?_, by rw [if_pos hK]⟩
        show (if T.2.2.2.2.1 < 6 then (if j = T.2.2.2.2.1 then T.2.2.2.1 else T.2.2.2.2.2.1 j) else if j = 5 then T.2.2.2.1 else T.2.2.2.2.2.1 (j + 1)) = _
        rw [if_pos hK, if_neg (by omega)]
      · rw [if_neg hK] at hj
        refine ⟨j + 1, by omega, by rw [if_neg hK, if_neg (by omega)], ?_, by rw [if_neg hK]⟩
        show (if T.2.2.2.2.1 < 6 then (if j = T.2.2.2.2.1 then T.2.2.2.1 else T.2.2.2.2.2.1 j) else if j = 5 then T.2.2.2.1 else T.2.2.2.2.2.1 (j + 1)) = _
        rw [if_neg hK, if_neg (by omega)]
    by_cases e : i = K1
    · subst e
      have ez : (tChg T z').2.2.2.2.2.1 i = T.2.2.2.1 := by
        show (if T.2.2.2.2.1 < 6 then (if i = T.2.2.2.2.1 then T.2.2.2.1 else T.2.2.2.2.2.1 i) else if i = 5 then T.2.2.2.1 else T.2.2.2.2.2.1 (i + 1)) = _
        by_cases hK : T.2.2.2.2.1 < 6
        · rw [if_pos hK] at hKK ⊢; rw [if_pos hKK.symm]
        · rw [if_neg hK] at hKK ⊢; rw [if_pos hKK.symm]
      rw [ez, eK]
      refine ⟨by rw [w, if_neg (by omega), if_pos ⟨rfl, rfl⟩], S _ _ h7, hlt, fun j hj => ?_⟩
      obtain ⟨m, p1, p2, p3, p4⟩ := lo j hj
      rw [p2]; exact (h9 m p1).2.2.1
    · obtain ⟨m, p1, p2, p3, p4⟩ := lo i (by omega)
      rw [p3]
      refine ⟨by rw [w, if_neg (by omega), if_neg (by omega)]; exact k5 i (by omega), by rw [p2]; exact S _ _ (h9 m p1).2.1, by rw [p2]; have := (h9 m p1).2.2.1; omega, fun j hj => ?_⟩
      obtain ⟨m', q1, q2, q3, q4⟩ := lo j (by omega)
      rw [p2, q2]
      exact (h9 m p1).2.2.2 m' (by rw [p4, q4]; split <;> omega)
  · rw [k8, e_TextValues_change_54, k4 1 2 (by omega), h6, jo_some, if_pos (show (jGs L g1).1 su = 9 from (kk su).1.trans k9), k7, jin_nI (by omega) (by omega), cond_true, nI_c (by omega), jGs_R (r12_0 (by omega)), e_TextValues_change_67, jGs_R rfl, e_TextValues_change_82, hg2, k7]

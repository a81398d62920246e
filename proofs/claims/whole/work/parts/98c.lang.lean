/-! TOP: numbers that are asked for, refusals, languages -/
set_option maxRecDepth 100000
theorem ix_b (x : Int32) {n : Nat} (h0 : 0 < n) (hn : n < 2147483648) : (∃ j, j < n ∧ x = nI j ∧ jb (0 ≤ x ∧ x ≤ nI (n - 1)) = true) ∨ ((x < 0 ∨ (¬ x < 0 ∧ nI n ≤ x)) ∧ jb (0 ≤ x ∧ x ≤ nI (n - 1)) = false) := by
  rcases pk_ix x (n := n) hn with h | h | ⟨j, hj, e⟩
  · exact Or.inr ⟨Or.inl h, jb_f.mpr (fun hh => (Int32.not_le.mpr h) hh.1)⟩
  · refine Or.inr ⟨?_, jb_f.mpr (fun hh => ?_)⟩
    · by_cases h' : x < 0
      · exact Or.inl h'
      · exact Or.inr ⟨h', h⟩
    · have := Int32.le_trans h hh.2
      exact nI_ge (by omega) (by omega) this
  · subst e
    exact Or.inl ⟨j, hj, rfl, jb_t.mpr ⟨nI_pos' (by omega), nI_le (by omega) (by omega)⟩⟩
/-- one more refusal -/
def tRef (T : zT) (j : Nat) : zT := (T.1, T.2.1, jup T.2.2.1 j (T.2.2.1 j + 1), T.2.2.2)
theorem tRef_W {T : zT} {j : Nat} (h : zWf T) : zWf (tRef T j) := h
theorem rI_o {T : zT} {I I' : Nat → Nat → Int32} (h : rI T I) (hw : zWf T) (ho : oC I I') : rI T I' := rI_x h hw (fun a j hx => by rw [ho a (by unfold iX at hx; omega) (by unfold iX at hx; omega)]) (fun y hy => by rw [ho 125 (by omega) (by omega)]; exact h.2.2.1.2.2.1 y hy)
theorem oC_t {I I1 I2 : Nat → Nat → Int32} (h : oC I I1) (h' : oC I1 I2) : oC I I2 := fun a y1 y2 => (h' a y1 y2).trans (h a y1 y2)
theorem oC_r (I : Nat → Nat → Int32) : oC I I := fun _ _ _ => rfl
/-- text and tallies alone change -/
theorem cI_1 {L : Nat} {T : zT} {su sr : Nat} {sa : Nat → Nat} {PC PQ N' : Nat} {c' : Nat → Nat} {tl' : Nat → Int32} {g : jG} {I I' : Nat → Nat → Int32} {J : Nat → Nat → Int64} (h : cI L T su sr sa PC PQ g I J) (o : ∀ a, a ≠ 1 → a ≠ 2 → I' a = I a) (h4 : I' 1 4 = I 1 4) (ht : I' 1 1 = nI N' ∧ ∀ i, i < N' → I' 2 i = nI (c' i)) (hl : I' 1 5 = tl' 0 ∧ I' 1 6 = tl' 1 ∧ I' 1 7 = tl' 2) : cI L (N', c', tl', T.2.2.2) su sr sa PC PQ g I' J := by
  obtain ⟨-, -, ⟨⟨m1, m2⟩, m3, m4, m5, m6, m7, m8⟩, ⟨h6, h7⟩, ⟨h8, h9⟩, h10, h11⟩ := h
  have S : ∀ z s, cSz L z s sr g I J → cSz L z s sr g I' J := fun z s hs => cSz_R hs m7 (fun a ha => ⟨o a (by unfold okS at ha; omega) (by unfold okS at ha; omega), rfl⟩)
  refine ⟨ht, hl, ⟨⟨mkI_I m1 (fun a ha => o a (fun e => m2 a (by omega) (by omega) ha) (fun e => m2 a (by omega) (by omega) ha)), m2⟩, m3, m4, m5, m6, m7, m8⟩, ⟨h6, S _ _ h7⟩, ⟨by rw [h4]; exact h8, fun i hi => ⟨(h9 i hi).1, S _ _ (h9 i hi).2.1, (h9 i hi).2.2⟩⟩, uT_cg h10 (fun j => by rw [o 116 (by omega) (by omega)]) (fun j => by rw [o 115 (by omega) (by omega)]), by rw [o 111 (by omega) (by omega)]; exact h11⟩
theorem rI_1 {T : zT} {N' : Nat} {c' : Nat → Nat} {tl' : Nat → Int32} {I I' : Nat → Nat → Int32} (h : rI T I) (hw : zWf T) (o : ∀ a j, a ≠ 118 → a ≠ 147 → ¬ (a = 117 ∧ j = 50) → I' a j = I a j) (ht : I' 117 50 = nI N' ∧ ∀ i, i < N' → I' 147 i = nI (c' i)) (hl : ∀ j, j < 3 → I' 118 j = tl' j) : rI (N', c', tl', T.2.2.2) I' := by
  obtain ⟨-, -, h4, ⟨h5, h6⟩, h7, ⟨h8, h9⟩, h10, h11⟩ := h
  refine ⟨ht, hl, rB_x h4 (fun a j hx => o a j (by omega) (by omega) (by omega)) (fun y hy => by rw [o _ _ (by omega) (by omega) (by omega)]; exact h4.2.2.1 y hy), ⟨by rw [o _ _ (by omega) (by omega) (by omega)]; exact h5, fun i hi => by rw [o _ _ (by omega) (by omega) (by omega)]; exact h6 i hi⟩, ?_, ⟨by rw [o _ _ (by omega) (by omega) (by omega)]; exact h8, fun i hi => rK_x (h9 i hi) (hw.2.2.2.1 i hi).2.1.1 (fun j _ _ => o _ _ (by omega) (by omega) (by omega))⟩, uT_cg h10 (fun j => o _ _ (by omega) (by omega) (by omega)) (fun j => o _ _ (by omega) (by omega) (by omega)), by rw [o _ _ (by omega) (by omega) (by omega)]; exact h11⟩
  rcases h7 with e | ⟨e1, e2, e3⟩
  · exact Or.inl (by rw [o _ _ (by omega) (by omega) (by omega)]; exact e)
  · exact Or.inr ⟨by rw [o _ _ (by omega) (by omega) (by omega)]; exact e1, rSt_cg e2 (o _ _ (by omega) (by omega) (by omega)) (fun v hv c hc => o _ _ (by omega) (by omega) (by omega)), rG_x e3 (fun j hj => o _ _ (by omega) (by omega) (by omega)) (fun j => o _ _ (by omega) (by omega) (by omega)) (fun j => o _ _ (by omega) (by omega) (by omega))⟩
/-- the answer of a refusal -/
def tAn (j : Nat) : Int32 := if j = 0 then -2 else if j = 1 then -3 else -4
section CC
variable (d L : Nat) (g : jG)
theorem c_refuse {T : zT} {su sr : Nat} {sa : Nat → Nat} {PC PQ : Nat} {I : Nat → Nat → Int32} {J : Nat → Nat → Int64} {j : Nat} (h : cI L T su sr sa PC PQ g I J) (hj : j < 3) : ∃ I', cI L (tRef T j) su sr sa PC PQ g I' J ∧ oC I I' ∧ jcall (d + 1) 147 [.ref 1, .int (tAn j)] (jGs L g, I, J) = some (some (.int (tAn j)), (jGs L g, I', J)) := by
  obtain ⟨t1, t2, t3⟩ := h.2.1
  have hc : j = 0 ∨ j = 1 ∨ j = 2 := by omega
  rcases hc with e | e | e <;> subst e
  · refine ⟨ju I 1 5 (I 1 5 + 1), cI_1 h (fun a h1 _ => ju_n h1) (zu_k (by omega)) ⟨by rw [zu_k (by omega)]; exact h.1.1, fun i hi => by rw [zu_a (by omega)]; exact h.1.2 i hi⟩ ⟨by rw [zu_at, jup_s, t1], by rw [zu_k (by omega), jup_n (by omega)]; exact t2, by rw [zu_k (by omega), jup_n (by omega)]; exact t3⟩, fun a y1 y2 => ju_n (by omega), ?_⟩
    show jcall (d + 1) 147 [.ref 1, .int (-2 : Int32)] _ = _
    rw [c_TextValues_refuse, e_TextValues_refuse_0, jif_t rfl, e_TextValues_refuse_48]; rfl
  · refine ⟨ju I 1 6 (I 1 6 + 1), cI_1 h (fun a h1 _ => ju_n h1) (zu_k (by omega)) ⟨by rw [zu_k (by omega)]; exact h.1.1, fun i hi => by rw [zu_a (by omega)]; exact h.1.2 i hi⟩ ⟨by rw [zu_k (by omega), jup_n (by omega)]; exact t1, by rw [zu_at, jup_s, t2], by rw [zu_k (by omega), jup_n (by omega)]; exact t3⟩, fun a y1 y2 => ju_n (by omega), ?_⟩
    show jcall (d + 1) 147 [.ref 1, .int (-3 : Int32)] _ = _
    rw [c_TextValues_refuse, e_TextValues_refuse_0, jif_f (by decide), jif_t rfl, e_TextValues_refuse_48]; rfl
  · refine ⟨ju I 1 7 (I 1 7 + 1), cI_1 h (fun a h1 _ => ju_n h1) (zu_k (by omega)) ⟨by rw [zu_k (by omega)]; exact h.1.1, fun i hi => by rw [zu_a (by omega)]; exact h.1.2 i hi⟩ ⟨by rw [zu_k (by omega), jup_n (by omega)]; exact t1, by rw [zu_k (by omega), jup_n (by omega)]; exact t2, by rw [zu_at, jup_s, t3]⟩, fun a y1 y2 => ju_n (by omega), ?_⟩
    show jcall (d + 1) 147 [.ref 1, .int (-4 : Int32)] _ = _
    rw [c_TextValues_refuse, e_TextValues_refuse_0, jif_f (by decide), jif_f (by decide), e_TextValues_refuse_48]; rfl
theorem r_refuse {T : zT} {I : Nat → Nat → Int32} {J : Nat → Nat → Int64} {j : Nat} (h : rI T I) (hw : zWf T) (hj : j < 3) : ∃ I', rI (tRef T j) I' ∧ oR I I' J J ∧ jcall (d + 1) (156 + j) [.ref 117] (jGs L g, I, J) = some (some (.int (tAn j)), (jGs L g, I', J)) := by
  refine ⟨ju I 118 j (I 118 j + 1), rI_1 h hw (fun a y h1 _ _ => zu_a h1) ⟨by rw [zu_a (by omega)]; exact h.1.1, fun i hi => by rw [zu_a (by omega)]; exact h.1.2 i hi⟩ (fun y hy => ?_), oR_I (fun a y ha => zu_a (by omega)), ?_⟩
  · by_cases e : y = j
    · rw [e, zu_at, jup_s, h.2.1 j hj]
    · rw [zu_k e, jup_n e]; exact h.2.1 y hy
  · have hc : j = 0 ∨ j = 1 ∨ j = 2 := by omega
    rcases hc with e | e | e <;> subst e
    · show jcall (d + 1) 156 _ _ = _
      rw [c_TextValuesModel_bad, e_TextValuesModel_bad_0, show jin (0 : Int32) 3 = true from jin_nI (n := 0) (by omega) (by omega), cond_true, cond_true, show (0 : Int32).toNatClampNeg = 0 from rfl]; rfl
    · show jcall (d + 1) 157 _ _ = _
      rw [c_TextValuesModel_no, e_TextValuesModel_no_0, show jin (1 : Int32) 3 = true from jin_nI (n := 1) (by omega) (by omega), cond_true, cond_true, show (1 : Int32).toNatClampNeg = 1 from rfl]; rfl
    · show jcall (d + 1) 158 _ _ = _
      rw [c_TextValuesModel_full, e_TextValuesModel_full_0, show jin (2 : Int32) 3 = true from jin_nI (n := 2) (by omega) (by omega), cond_true, cond_true, show (2 : Int32).toNatClampNeg = 2 from rfl]; rfl
theorem c_isLang {I : Nat → Nat → Int32} {J : Nat → Nat → Int64} (x : Int32) : jcall (d + 1) 149 [.int x] (jGs L g, I, J) = some (some (.int (bI (jb (0 ≤ x ∧ x ≤ nI (8 - 1))))), (jGs L g, I, J)) := by
  rw [c_TextValues_isLanguage, e_TextValues_isLanguage_0]
  rcases ix_b x (n := 8) (by omega) (by omega) with ⟨j, hj, e, hb⟩ | ⟨h, hb⟩
  · subst e
    rw [hb, jif_f (nI_pos (by omega)), jif_f (show ¬ (8 : Int32) ≤ nI j from nI_ge (b := 8) (by omega) (by omega)), e_TextValues_isLanguage_15, jif_t (Or.inr rfl)]; rfl
  · rw [hb]
    have e15 : jval d 149 14 [jjunk] [] (jGs L g, I, J) = some (some (.int (bI false)), (jGs L g, I, J)) := by
      rw [e_TextValues_isLanguage_14, e_TextValues_isLanguage_15, jif_t (Or.inl rfl)]; rfl
    rcases h with h | ⟨h1, h2⟩
    · rw [jif_t h, e15]
    · rw [jif_f h1, jif_t (show (8 : Int32) ≤ x from h2), e15]
/-- the language that v stands for -/
noncomputable def zLg (z : zS) (v : Nat) : Option kA := if v < 4 then (zR z).1.map (fun V => V v) else some (z.1 (v - 4))
theorem c_isPossible {I : Nat → Nat → Int32} {J : Nat → Nat → Int64} {o : Option yV} (h : cZs L g I J 40 o) : jcall (d + 1) 1 [.ref 39] (jGs L g, I, J) = some (some (.int (bI o.isSome)), (jGs L g, I, J)) := by
  obtain ⟨V, -, h2⟩ := h
  rw [c_Analysis_isPossible, e_Analysis_isPossible_0]
  rcases h2 with ⟨e1, e2⟩ | ⟨e1, e2⟩
  · rw [e1, e2, jif_t (by decide)]; rfl
  · rw [e1, e2, jif_t (by decide)]; rfl
theorem c_lang {T : zT} {su sr : Nat} {sa : Nat → Nat} {PC PQ v : Nat} {I : Nat → Nat → Int32} {J : Nat → Nat → Int64} (h : cI L T su sr sa PC PQ g I J) (hv : v < 8) (hz : v < 4 → cZs L g I J 40 (zR T.2.2.2.1).1) : (zLg T.2.2.2.1 v = none ∧ jcall (d + 4) 150 [.ref 1, .int (nI v)] (jGs L g, I, J) = some (some .null, (jGs L g, I, J))) ∨ ∃ A x, zLg T.2.2.2.1 v = some A ∧ cR L g I J x A ∧ x ≤ g.2.2.2.1 ∧ (okS x ∨ (42 ≤ x ∧ x ≤ 45)) ∧ jcall (d + 4) 150 [.ref 1, .int (nI v)] (jGs L g, I, J) = some (some (.ref x), (jGs L g, I, J)) := by
  have hC := mkI_C h.2.2.1.1.1
  unfold zLg
  by_cases h4 : v < 4
  · have hz' := hz h4
    have hp := c_isPossible (d + 2) L g hz'
    have e0 : jcall (d + 4) 150 [.ref 1, .int (nI v)] (jGs L g, I, J) = jval (d + 3) 150 23 [.ref 1, .int (nI v)] [.int (bI (zR T.2.2.2.1).1.isSome)] (jGs L g, I, J) := by
      rw [c_TextValues_language, e_TextValues_language_0, jif_t (show nI v < (4 : Int32) from Eq.mpr (zi_lt (b := 4) (by omega) (by omega)) h4), hp, jcI_some]
    rw [e0, if_pos h4]
    cases hR : (zR T.2.2.2.1).1 with
    | none =>
      refine Or.inl ⟨rfl, ?_⟩
      show jval (d + 3) 150 23 [.ref 1, .int (nI v)] [.int (bI false)] _ = _
      rw [e_TextValues_language_23, jif_t (by decide), e_TextValues_language_38]
    | some V =>
      rw [hR] at hz'
      obtain ⟨lv, -⟩ := cZs_v hz'
      refine Or.inr ⟨V v, 40 + 2 + v, rfl, lv v h4, by omega, by omega, ?_⟩
      show jval (d + 3) 150 23 [.ref 1, .int (nI v)] [.int (bI true)] _ = _
      rw [e_TextValues_language_23, jif_f (by decide), c_Analysis_behind, e_Analysis_behind_0, c_at (d + 1) L g (Or.inl rfl) h4, jcR_some, e_Analysis_behind_8a, jcR_some, e_TextValues_language_34a, e_TextValues_language_38a]
  · obtain ⟨x, x1, x2, x3, x4⟩ := c_patternAt (d + 2) L g h.2.2.2.1.2.1 (show v - 4 < 4 by omega)
    rw [if_neg h4]
    refine Or.inr ⟨_, x, rfl, x1, x2, Or.inl x3, ?_⟩
    rw [c_TextValues_language, e_TextValues_language_0, jif_f (show ¬ nI v < (4 : Int32) from fun e => h4 (Eq.mp (zi_lt (b := 4) (by omega) (by omega)) e)), h.2.2.2.1.1, jo_some, if_pos (show (jGs L g).1 su = 9 from h.2.2.2.1.2.1.2.2.1), show nI v - (4 : Int32) = nI (v - 4) from zi_sub (b := 4) (by omega), x4, jcR_some, e_TextValues_language_15a]
/-- where the reference has it -/
def zSl (v : Nat) : Nat := if v < 4 then 48 + v else v - 4
theorem r_slot {I : Nat → Nat → Int32} {J : Nat → Nat → Int64} {v : Nat} (hv : v < 8) : jcall (d + 1) 260 [.ref 117, .int (nI v)] (jGs L g, I, J) = some (some (.int (nI (zSl v))), (jGs L g, I, J)) := by
  unfold zSl
  rw [c_TextValuesModel_slotOf, e_TextValuesModel_slotOf_0]
  by_cases h4 : v < 4
  · rw [if_pos h4, jif_f (show ¬ (4 : Int32) ≤ nI v from nI_ge (b := 4) (by omega) (by omega)), e_TextValuesModel_slotOf_15, show (48 : Int32) + nI v = nI (48 + v) from nI_add 48 v]
  · rw [if_neg h4, jif_t (show (4 : Int32) ≤ nI v from nI_le (a := 4) (by omega) (by omega)), e_TextValuesModel_slotOf_15, show nI v - (4 : Int32) = nI (v - 4) from zi_sub (b := 4) (by omega)]
theorem r_nowhere {T : zT} {I : Nat → Nat → Int32} {J : Nat → Nat → Int64} {v : Nat} (h : rI T I) (hw : zWf T) (hv : v < 8) : ∃ I', rI T I' ∧ oR I I' J J ∧ (rSt I' 48 (zR T.2.2.2.1).1 ∧ rG (zq T.2.2.2.1) (zR T.2.2.2.1).2 0 0 I') ∧ jcall (d + 15) 261 [.ref 117, .int (nI v)] (jGs L g, I, J) = some (some (.int (bI (zLg T.2.2.2.1 v).isNone)), (jGs L g, I', J)) ∧ ∀ A, zLg T.2.2.2.1 v = some A → mR I' (zSl v) A ∧ kV A := by
  obtain ⟨I', a1, a2, a3, a4⟩ := r_ft d L g (J := J) h hw
  refine ⟨I', a1, a2, a3, ?_, fun A hA => ?_⟩
  · have e24 : jval (d + 14) 261 24 [jjunk, jjunk] [] (jGs L g, I', J) = some (some (.int (bI false)), (jGs L g, I', J)) := by
      rw [e_TextValuesModel_isNowhere_24, e_TextValuesModel_isNowhere_25, jif_t (Or.inl rfl)]; rfl
    rw [c_TextValuesModel_isNowhere, e_TextValuesModel_isNowhere_0, a4, jcV_some, e_TextValuesModel_isNowhere_4, e24]
    unfold zLg
    by_cases h4 : v < 4
    · rw [if_pos h4, jif_f (show ¬ (4 : Int32) ≤ nI v from nI_ge (b := 4) (by omega) (by omega)), show jin (48 : Int32) 56 = true from jin_nI (n := 48) (by omega) (by omega), cond_true, show (48 : Int32).toNatClampNeg = 48 from rfl]
      rcases a3.1 with ⟨e1, e2⟩ | ⟨V, e1, e2, e3⟩
      · rw [e1, e2, jif_t (by decide), e_TextValuesModel_isNowhere_25, jif_t (Or.inr rfl)]; rfl
      · rw [e1, e2, jif_f (by decide)]; rfl
    · rw [if_neg h4, jif_t (show (4 : Int32) ≤ nI v from nI_le (a := 4) (by omega) (by omega))]; rfl
  · unfold zLg at hA
    unfold zSl
    by_cases h4 : v < 4
    · rw [if_pos h4] at hA ⊢
      rcases a3.1 with ⟨e1, e2⟩ | ⟨V, e1, e2, e3⟩
      · rw [e1] at hA; cases hA
      · rw [e1] at hA; cases hA
        exact e3 v h4
    · rw [if_neg h4] at hA ⊢
      cases hA
      exact a1.2.2.1.2.1 (v - 4) (by omega)
/-- what is told of a language -/
noncomputable def dsc (A : kA) (w : Nat) : Int32 := if w = 0 then nI A.1 else if w = 1 then oI (lLo A 10 0) else if w = 2 then gLv (gLo A 20) else if w = 3 then bI (jb (A = kAll)) else bI (jb (A = kNo))
theorem dsc_0 (A : kA) : dsc A 0 = nI A.1 := by unfold dsc; rw [if_pos rfl]
theorem dsc_1 (A : kA) : dsc A 1 = oI (lLo A 10 0) := by unfold dsc; rw [if_neg (by decide), if_pos rfl]
theorem dsc_2 (A : kA) : dsc A 2 = gLv (gLo A 20) := by unfold dsc; rw [if_neg (by decide), if_neg (by decide), if_pos rfl]
theorem dsc_3 (A : kA) : dsc A 3 = bI (jb (A = kAll)) := by unfold dsc; rw [if_neg (by decide), if_neg (by decide), if_neg (by decide), if_pos rfl]
theorem dsc_4 (A : kA) : dsc A 4 = bI (jb (A = kNo)) := by unfold dsc; rw [if_neg (by decide), if_neg (by decide), if_neg (by decide), if_neg (by decide)]
theorem c_dsc {I : Nat → Nat → Int32} {J : Nat → Nat → Int64} {x w : Nat} {A : kA} (h : cR L g I J x A) (hw : w < 5) : jcall (d + 5) 151 [.ref 1, .ref x, .int (nI w)] (jGs L g, I, J) = some (some (.int (dsc A w)), (jGs L g, I, J)) := by
  have k2 : (jGs L g).1 x = 2 := h.1
  rw [c_TextValues_described, e_TextValues_described_0]
  have hc : w = 0 ∨ w = 1 ∨ w = 2 ∨ w = 3 ∨ w = 4 := by omega
  rcases hc with e | e | e | e | e <;> subst e
  · rw [jif_t (by decide), e_TextValues_described_32, if_pos k2, h.2.2.2.2.2, dsc_0]
  · rw [jif_f (by decide), jif_t (by decide), e_TextValues_described_37, c_shortest (d + 1) L g h, jcI_some, e_TextValues_described_45, dsc_1]
  · rw [jif_f (by decide), jif_f (by decide), jif_t (by decide), e_TextValues_described_46, c_longest (d + 1) L g h, jcI_some, e_TextValues_described_54, dsc_2]
  · rw [jif_f (by decide), jif_f (by decide), jif_f (by decide), jif_t (by decide), e_TextValues_described_55, if_pos k2, c_isAll (d + 3) L g h, jcI_some, e_TextValues_described_59]
    rw [dsc_3]
    cases jb (A = kAll) with
    | true => rw [jif_f (by decide), e_TextValues_described_67]; rfl
    | false => rw [jif_t (by decide), e_TextValues_described_67]; rfl
  · rw [jif_f (by decide), jif_f (by decide), jif_f (by decide), jif_f (by decide), e_TextValues_described_68, if_pos k2, c_isNothing (d + 3) L g h, jcI_some, e_TextValues_described_72]
    rw [dsc_4]
    cases jb (A = kNo) with
    | true => rw [jif_f (by decide), e_TextValues_described_80]; rfl
    | false => rw [jif_t (by decide), e_TextValues_described_80]; rfl
theorem kAll_m {A : kA} (hA : kV A) : (nI A.1 = 1 ∧ nI (kEm A.2.1 A.1) = 1) = (A = kAll) := by
  have h10 := hA.2.1
  have hE := kEm_lt10 hA
  apply propext
  constructor
  · rintro ⟨h1, h2⟩
    have e1 : A.1 = 1 := (nI_eq (b := 1) (by omega) (by omega)).mp h1
    have e2 : kEm A.2.1 A.1 = 1 := (nI_eq (b := 1) (by omega) (by omega)).mp h2
    refine kA_ext hA.2.2 kAll_V.2.2 e1 (fun q hq => ?_) (fun q hq l hl => ?_)
    · have hb := kEm_bit A.2.1 q A.1
      rw [e2, decide_eq_true hq, Bool.true_and] at hb
      have : q = 0 := by omega
      subst this
      rw [← hb]; rfl
    · have := hA.1.1.2 q hq l hl
      show A.2.2 q l = 0
      omega
  · intro e
    subst e
    exact ⟨rfl, rfl⟩
theorem r_dsc {I : Nat → Nat → Int32} {J : Nat → Nat → Int64} {k w : Nat} {A : kA} (h : mR I k A) (hA : kV A) (hw : w < 5) : ∃ I', (∀ a, a ≠ 134 → I' a = I a) ∧ jcall (d + 5) 262 [.ref 117, .int (nI k), .int (nI w)] (jGs L g, I, J) = some (some (.int (dsc A w)), (jGs L g, I', J)) := by
  rw [c_TextValuesModel_valueOf, e_TextValuesModel_valueOf_0]
  have hc : w = 0 ∨ w = 1 ∨ w = 2 ∨ w = 3 ∨ w = 4 := by omega
  rcases hc with e | e | e | e | e <;> subst e
  · refine ⟨I, fun _ _ => rfl, ?_⟩
    rw [jif_t (by decide), e_TextValuesModel_valueOf_32, s_size (d + 3) L g I J h.1, jcI_some, e_TextValuesModel_valueOf_37, h.2.2.2.1, dsc_0]
  · obtain ⟨I', a1, a2⟩ := r_leastLength d L g J h
    refine ⟨I', a1, ?_⟩
    rw [jif_f (by decide), jif_t (by decide), e_TextValuesModel_valueOf_38, a2, jcI_some, e_TextValuesModel_valueOf_43, dsc_1]
  · obtain ⟨I', a1, a2⟩ := r_greatestLength d L g J h
    refine ⟨I', a1, ?_⟩
    rw [jif_f (by decide), jif_f (by decide), jif_t (by decide), e_TextValuesModel_valueOf_44, a2, jcI_some, e_TextValuesModel_valueOf_49, dsc_2]
  · refine ⟨I, fun _ _ => rfl, ?_⟩
    rw [jif_f (by decide), jif_f (by decide), jif_f (by decide), jif_t (by decide), e_TextValuesModel_valueOf_50, s_isAll (d + 2) L g I J h.1, h.2.2.2.1, h.2.2.2.2.1, kAll_m hA, jcI_some, e_TextValuesModel_valueOf_55]
    rw [dsc_3]
    cases jb (A = kAll) with
    | true => rw [jif_f (by decide), e_TextValuesModel_valueOf_63]; rfl
    | false => rw [jif_t (by decide), e_TextValuesModel_valueOf_63]; rfl
  · refine ⟨I, fun _ _ => rfl, ?_⟩
    rw [jif_f (by decide), jif_f (by decide), jif_f (by decide), jif_f (by decide), e_TextValuesModel_valueOf_64, r_isNothing (d + 2) L g h hA, jcI_some, e_TextValuesModel_valueOf_69]
    rw [dsc_4]
    cases jb (A = kNo) with
    | true => rw [jif_f (by decide), e_TextValuesModel_valueOf_77]; rfl
    | false => rw [jif_t (by decide), e_TextValuesModel_valueOf_77]; rfl
end CC

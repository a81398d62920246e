/-! one step: rows, new cells, ends -/
set_option maxRecDepth 100000
set_option maxHeartbeats 8000000
theorem jin_vp {i : Int32} {n : Nat} (h : jin i n = true) : vp_in i n ∧ i.toNatClampNeg < n := by
  obtain ⟨h1, h2⟩ := jin_t.mp h
  refine ⟨fun q => ?_, h2⟩
  rcases q with q | q
  · exact absurd h1 (Int32.not_le.mpr q)
  · omega
theorem jbyte (x : Int32) : x.toInt8.toInt32.toInt8.toInt32 = x.toInt8.toInt32 := by simp
theorem jbyte_fits {x : Int32} (h : x.toInt8.toInt32 = x) : fits .byte (.int x) = true := by
  rw [← h]
  have h1 := Int8.toInt_le x.toInt8
  have h2 := Int8.minValue_le_toInt x.toInt8
  have h3 : x.toInt8.toInt32.toInt = x.toInt8.toInt := Int8.toInt_toInt32 _
  simp only [fits, Bool.and_eq_true, decide_eq_true_eq, Int32.le_iff_toInt_le, h3]
  refine ⟨?_, ?_⟩
  · rw [show (-128 : Int32).toInt = -128 by decide]; exact h2
  · rw [show (127 : Int32).toInt = 127 by decide]; exact h1
section JT
variable {b lo : Nat} {D : va_G} {cy : Nat → ClassId} {mi : Nat} {p : Program} {l : Launch} {e : Env} {R : Room} {s : State} {m : MethodId} {args : Array Value} {below : List Frame} {meth : Method} {c : Code} {mc ms : Nat} {out : Option Value × jS} {pc : Nat} {lv st : List Value} {S S' : jS}
variable {H : Heap} {locs : List Loc} {cells slots : Nat} {Q : State → Prop} {ls : Array Slot} {rest : List Value}
theorem jrow {a : Nat} (hw : jWd b lo D cy S s H) (h1 : 14 ≤ jK S a) (h2 : jK S a ≤ 19) : a ≠ 0 ∧ H[jρ b lo a]? = some (vp_cell (cy (jK S a)) (jEr (jρ b lo) S a)) := by
  have ha0 : a ≠ 0 := by
    intro h0
    subst h0
    rw [hw.2.2.2.1] at h2
    omega
  have := (hw.2.2.2.2.1 a ha0 (by omega)).2.2
  rw [jE_row h1] at this
  exact ⟨ha0, this⟩
theorem jarr (hKn : jKn D cy s) {k : Nat} (h1 : 14 ≤ k) (h2 : k ≤ 19) : ∃ ty, ArrOfT s (cy k) ty ∧ va_RA s (cy k) ty ∧ (k = 14 → ty = .byte) ∧ (k = 15 → ty = .int) ∧ (k = 16 → ty = .long) ∧ (17 ≤ k → ∃ C, ty = .object C) := by
  obtain ⟨ty, g1, g2⟩ := jays_at (cy := cy) h1 h2
  obtain ⟨q1, q2⟩ := hKn.1.2 _ _ g1
  exact ⟨ty, q1, q2, g2⟩
theorem j_write {a : Nat} (hw : jWd b lo D cy S s H) (ha0 : a ≠ 0) (h1 : 14 ≤ jK S a) (hS1 : jC S' = jC S) (hS2 : jK S' = jK S) (hS3 : jLn S' = jLn S) (hI : ∀ c, c ≠ a → jI S' c = jI S c) (hJ : ∀ c, c ≠ a → jJ S' c = jJ S c) (hR : ∀ c, c ≠ a → jR S' c = jR S c) (hby : jK S a = 14 → ∀ j, (jI S' a j).toInt8.toInt32 = jI S' a j) {cell : Cell} (hcell : cell = vp_cell (cy (jK S a)) (jEr (jρ b lo) S' a)) {L : List Loc} (hL : ∀ x ∈ L, x.base = jρ b lo a)
    (kk : ∀ (H' : Heap) (locs' : List Loc), jWd b lo D cy S' s H' → (∀ q, q < lo → H'[q]? = H[q]?) → (∀ x ∈ locs', x ∈ locs ∨ lo ≤ x.base) → W p l e R s m args below meth c H' locs' cells slots Q (F0 m pc ls rest)) :
    ∀ H' : Heap, H'[jρ b lo a]? = some cell → H'.size = H.size → (∀ q, q ≠ jρ b lo a → H'[q]? = H[q]?) → W p l e R s m args below meth c H' (locs ++ L) cells slots Q (F0 m pc ls rest) := by
  intro H' e1 e2 e3
  refine kk H' _ (hw.upd ha0 (by omega) e2 e3 hS1 hS2 hS3 hI hJ hR ?_ hby) (fun q hq => e3 q (fun h => by rw [jρ_pos ha0] at h; omega)) (fun x hx => ?_)
  · rw [jE_row (by rw [hS2]; exact h1), hS2]
    show H'[jρ b lo a]? = some _
    rw [e1, hcell]
  · rcases List.mem_append.mp hx with h | h
    · exact Or.inl h
    · right
      rw [hL x h, jρ_pos ha0]
      omega
theorem j_rows {K : Nat → List Value → List Value → jS → jO} {kc : Nat → List Value → List Value → jO} {kr : Option Value → jS → jO} (hC : jCx lo D cy mi p s m args meth c) (hlen : lv.length = (jmt mi).2.1) (hK : jNext b lo D cy mi p l e R s m args below meth c mc ms out K) {i : Instr} {len : Nat} (hdg : decode (jby mi) pc = .ok (i, len)) (hln : jlen i len = true)
    (hi : match i with
      | .iaload => True | .baload => True | .laload => True | .aaload => True | .iastore => True | .bastore => True | .lastore => True | .aastore => True | .arraylength => True
      | _ => False)
    (h : jstep (jmt mi).1 (jini mi) (jmt mi).2.2.1 i pc lv st S none (fun pc' lv' st' S' => K pc' (jklp (jkl mi) pc' lv') st' S') kc kr = some out) : jAt b lo D cy mi p l e R s m args below meth c mc ms out pc lv st S := by
  obtain ⟨hx, hb, hr, hml, hown, hts, hlk, hini, hKn, hlo', hmi⟩ := hC
  cases i with
  | iaload =>
    rw [jq_iaload] at h
    obtain rfl := jlen1 hln
    have hz := jp1_inv h; clear h; obtain ⟨j, r, rfl, h⟩ := hz; have hz := jpr_inv h; clear h; obtain ⟨a, r, rfl, h⟩ := hz; have hz := ite_inv h; clear h; obtain ⟨hka, h⟩ := hz; have hz := cond_inv h; clear h; obtain ⟨hin, h⟩ := hz
    obtain ⟨g1, g2⟩ := jin_vp hin
    refine (hK _ _ _ _ hlen h).pure fun H locs ls cells slots Q hw hl k => ?_
    rcases hka with hka | hka
    · obtain ⟨ha0, hc⟩ := jrow (a := a) hw (by omega) (by omega)
      rw [jEr_i (Or.inr hka)] at hc
      obtain ⟨ty, t1, -, -, t2, -⟩ := jarr hKn (k := jK S a) (by omega) (by omega)
      have := t2 hka
      subst this
      exact W.iald (v := .int (jI S a j.toNatClampNeg)) hx hb hc (t1 _ _) (fun q => by cases q) (by show ¬ (j < 0 ∨ (arrV _ _ _).slots.size ≤ _); rw [arrV_size]; exact g1) (by show (arrV _ _ _).slots[_]? = _; rw [arrV_read _ _ g2]) rfl rfl hdg k
    · have ha0 : a = 0 := by
        apply Classical.byContradiction
        intro h0
        have := (hw.2.2.2.2.1 a h0 (by omega)).1
        omega
      subst ha0
      obtain ⟨scr, s1, s2, s3, s4, s5⟩ := hw.2.2.1
      exact W.iald (v := .int (jI S 0 j.toNatClampNeg)) hx hb s1 s2 s3 (by rw [s4]; exact g1) (s5 _ g2) rfl rfl hdg k
  | baload =>
    rw [jq_baload] at h
    obtain rfl := jlen1 hln
    have hz := jp1_inv h; clear h; obtain ⟨j, r, rfl, h⟩ := hz; have hz := jpr_inv h; clear h; obtain ⟨a, r, rfl, h⟩ := hz; have hz := ite_inv h; clear h; obtain ⟨hka, h⟩ := hz; have hz := cond_inv h; clear h; obtain ⟨hin, h⟩ := hz
    obtain ⟨g1, g2⟩ := jin_vp hin
    refine (hK _ _ _ _ hlen h).pure fun H locs ls cells slots Q hw hl k => ?_
    obtain ⟨ha0, hc⟩ := jrow (a := a) hw (by omega) (by omega)
    rw [jEr_i (Or.inl hka)] at hc
    obtain ⟨ty, t1, -, t2, -⟩ := jarr hKn (k := jK S a) (by omega) (by omega)
    have := t2 hka
    subst this
    exact W.bald (v := .int (jI S a j.toNatClampNeg)) hx hb hc (t1 _ _) (fun q => by cases q) (by show ¬ (j < 0 ∨ (arrV _ _ _).slots.size ≤ _); rw [arrV_size]; exact g1) (by show (arrV _ _ _).slots[_]? = _; rw [arrV_read _ _ g2]) rfl rfl hdg k
  | laload =>
    rw [jq_laload] at h
    obtain rfl := jlen1 hln
    have hz := jp1_inv h; clear h; obtain ⟨j, r, rfl, h⟩ := hz; have hz := jpr_inv h; clear h; obtain ⟨a, r, rfl, h⟩ := hz; have hz := ite_inv h; clear h; obtain ⟨hka, h⟩ := hz; have hz := cond_inv h; clear h; obtain ⟨hin, h⟩ := hz
    obtain ⟨g1, g2⟩ := jin_vp hin
    refine (hK _ _ _ _ hlen h).pure fun H locs ls cells slots Q hw hl k => ?_
    obtain ⟨ha0, hc⟩ := jrow (a := a) hw (by omega) (by omega)
    rw [jEr_l hka] at hc
    obtain ⟨ty, t1, -, -, -, t2, -⟩ := jarr hKn (k := jK S a) (by omega) (by omega)
    have := t2 hka
    subst this
    exact W.lald (v := .long (jJ S a j.toNatClampNeg)) hx hb hc (t1 _ _) (fun q => by cases q) (by show ¬ (j < 0 ∨ (arrV _ _ _).slots.size ≤ _); rw [arrV_size]; exact g1) (by show (arrV _ _ _).slots[_]? = _; rw [arrV_read _ _ g2]) rfl rfl hdg k
  | aaload =>
    rw [jq_aaload] at h
    obtain rfl := jlen1 hln
    have hz := jp1_inv h; clear h; obtain ⟨j, r, rfl, h⟩ := hz; have hz := jpr_inv h; clear h; obtain ⟨a, r, rfl, h⟩ := hz; have hz := ite_inv h; clear h; obtain ⟨hka, h⟩ := hz; have hz := cond_inv h; clear h; obtain ⟨hin, h⟩ := hz
    obtain ⟨g1, g2⟩ := jin_vp hin
    have row : ∀ (H : Heap) (locs : List Loc) (ls : Array Slot) (cells slots : Nat) (Q : State → Prop), jWd b lo D cy S s H → W p l e R s m args below meth c H locs cells slots Q (F0 m (pc + 1) ls (va_rf ((jR S a j.toNatClampNeg).map (jρ b lo)) :: r.map (jrv (jρ b lo)))) → W p l e R s m args below meth c H locs cells slots Q (F0 m pc ls (.int j :: .ref (jρ b lo a) :: r.map (jrv (jρ b lo)))) := by
      intro H locs ls cells slots Q hw k
      obtain ⟨ha0, hc⟩ := jrow (a := a) hw (by omega) (by omega)
      rw [jEr_q hka.1] at hc
      obtain ⟨ty, t1, -, -, -, -, t2⟩ := jarr hKn (k := jK S a) (by omega) (by omega)
      obtain ⟨C, rfl⟩ := t2 hka.1
      exact W.aald (v := va_rf ((jR S a j.toNatClampNeg).map (jρ b lo))) (ty := .object C) hx hb hc (t1 _ _) rfl (fun q => by cases q) (by show ¬ (j < 0 ∨ (arrV _ _ _).slots.size ≤ _); rw [arrV_size]; exact g1) (by show (arrV _ _ _).slots[_]? = _; rw [arrV_read _ _ g2]) rfl rfl hdg k
    cases ho : jR S a j.toNatClampNeg with
    | none =>
      rw [ho] at h row
      exact (hK _ _ _ _ hlen h).pure fun H locs ls cells slots Q hw hl k => row H locs ls cells slots Q hw k
    | some bb =>
      rw [ho] at h row
      exact (hK _ _ _ _ hlen h).pure fun H locs ls cells slots Q hw hl k => row H locs ls cells slots Q hw k
  | iastore =>
    rw [jq_iastore] at h
    obtain rfl := jlen1 hln
    have hz := jp1_inv h; clear h; obtain ⟨x, r, rfl, h⟩ := hz; have hz := jp1_inv h; clear h; obtain ⟨j, r, rfl, h⟩ := hz; have hz := jpr_inv h; clear h; obtain ⟨a, r, rfl, h⟩ := hz; have hz := ite_inv h; clear h; obtain ⟨hka, h⟩ := hz; have hz := cond_inv h; clear h; obtain ⟨hin, h⟩ := hz
    obtain ⟨g1, g2⟩ := jin_vp hin
    refine (hK _ _ _ (jsI S a j.toNatClampNeg x) hlen h).heap rfl rfl fun H locs ls cells slots Q hw hls kk => ?_
    obtain ⟨ha0, hc⟩ := jrow (a := a) hw (by omega) (by omega)
    rw [jEr_i (Or.inr hka)] at hc
    obtain ⟨ty, t1, -, -, t2, -⟩ := jarr hKn (k := jK S a) (by omega) (by omega)
    have := t2 hka
    subst this
    refine W.iast hx hb hc (t1 _ _) (fun q => by cases q) (by show ¬ (j < 0 ∨ (arrV _ _ _).slots.size ≤ _); rw [arrV_size]; exact g1) rfl rfl hdg (j_write (S' := jsI S a j.toNatClampNeg x) hw ha0 (by omega) rfl rfl rfl (fun c hc => ju_n hc) (fun c hc => rfl) (fun c hc => rfl) (fun h14 => by omega) ?_ (fun y hy => by rw [List.mem_singleton.mp hy]) kk)
    rw [jEr_i (S := jsI S a j.toNatClampNeg x) (Or.inr hka)]
    rw [vp_cell_i, vp_cell_i, arrV_store]
    congr 1
    funext q
    show updV _ _ _ q = Value.int (ju S.2.1 a j.toNatClampNeg x a q)
    rw [ju_s]
    unfold updV jup
    split <;> rfl
  | bastore =>
    rw [jq_bastore] at h
    obtain rfl := jlen1 hln
    have hz := jp1_inv h; clear h; obtain ⟨x, r, rfl, h⟩ := hz; have hz := jp1_inv h; clear h; obtain ⟨j, r, rfl, h⟩ := hz; have hz := jpr_inv h; clear h; obtain ⟨a, r, rfl, h⟩ := hz; have hz := ite_inv h; clear h; obtain ⟨hka, h⟩ := hz; have hz := cond_inv h; clear h; obtain ⟨hin, h⟩ := hz
    obtain ⟨g1, g2⟩ := jin_vp hin
    refine (hK _ _ _ (jsI S a j.toNatClampNeg x.toInt8.toInt32) hlen h).heap rfl rfl fun H locs ls cells slots Q hw hls kk => ?_
    obtain ⟨ha0, hc⟩ := jrow (a := a) hw (by omega) (by omega)
    rw [jEr_i (Or.inl hka)] at hc
    obtain ⟨ty, t1, -, t2, -⟩ := jarr hKn (k := jK S a) (by omega) (by omega)
    have := t2 hka
    subst this
    refine W.bast hx hb hc (t1 _ _) (fun q => by cases q) (by show ¬ (j < 0 ∨ (arrV _ _ _).slots.size ≤ _); rw [arrV_size]; exact g1) rfl rfl hdg (j_write (S' := jsI S a j.toNatClampNeg x.toInt8.toInt32) hw ha0 (by omega) rfl rfl rfl (fun c hc => ju_n hc) (fun c hc => rfl) (fun c hc => rfl) (fun h14 q => ?_) ?_ (fun y hy => by rw [List.mem_singleton.mp hy]) kk)
    · show (ju S.2.1 a j.toNatClampNeg x.toInt8.toInt32 a q).toInt8.toInt32 = ju S.2.1 a j.toNatClampNeg x.toInt8.toInt32 a q
      rw [ju_s]
      unfold jup
      split
      · exact jbyte x
      · exact hw.2.2.2.2.2 a hka q
    · rw [jEr_i (S := jsI S a j.toNatClampNeg x.toInt8.toInt32) (Or.inl hka)]
      rw [vp_cell_i, vp_cell_i, arrV_store]
      congr 1
      funext q
      show updV _ _ _ q = Value.int (ju S.2.1 a j.toNatClampNeg x.toInt8.toInt32 a q)
      rw [ju_s]
      unfold updV jup
      split <;> rfl
  | lastore =>
    rw [jq_lastore] at h
    obtain rfl := jlen1 hln
    have hz := jq1_inv h; clear h; obtain ⟨x, r, rfl, h⟩ := hz; have hz := jp1_inv h; clear h; obtain ⟨j, r, rfl, h⟩ := hz; have hz := jpr_inv h; clear h; obtain ⟨a, r, rfl, h⟩ := hz; have hz := ite_inv h; clear h; obtain ⟨hka, h⟩ := hz; have hz := cond_inv h; clear h; obtain ⟨hin, h⟩ := hz
    obtain ⟨g1, g2⟩ := jin_vp hin
    refine (hK _ _ _ (jsJ S a j.toNatClampNeg x) hlen h).heap rfl rfl fun H locs ls cells slots Q hw hls kk => ?_
    obtain ⟨ha0, hc⟩ := jrow (a := a) hw (by omega) (by omega)
    rw [jEr_l hka] at hc
    obtain ⟨ty, t1, -, -, -, t2, -⟩ := jarr hKn (k := jK S a) (by omega) (by omega)
    have := t2 hka
    subst this
    refine W.last hx hb hc (t1 _ _) (fun q => by cases q) (by show ¬ (j < 0 ∨ (arrV _ _ _).slots.size ≤ _); rw [arrV_size]; exact g1) rfl rfl hdg (j_write (S' := jsJ S a j.toNatClampNeg x) hw ha0 (by omega) rfl rfl rfl (fun c hc => rfl) (fun c hc => ju_n hc) (fun c hc => rfl) (fun h14 => by omega) ?_ (fun y hy => by rw [List.mem_singleton.mp hy]) kk)
    rw [jEr_l (S := jsJ S a j.toNatClampNeg x) hka]
    rw [vp_cell_l, vp_cell_l, arrV_store]
    congr 1
    funext q
    show updV _ _ _ q = Value.long (ju S.2.2 a j.toNatClampNeg x a q)
    rw [ju_s]
    unfold updV jup
    split <;> rfl
  | aastore =>
    rw [jq_aastore] at h
    obtain rfl := jlen1 hln
    have hcell : ∀ (a : Nat) (j : Int32) (o : Option Nat), 17 ≤ jK S a → (vp_cell (cy (jK S a)) (jEr (jρ b lo) S a)).setSlot j.toNatClampNeg (va_rf (o.map (jρ b lo))) = vp_cell (cy (jK S a)) (jEr (jρ b lo) (jsR S a j.toNatClampNeg o) a) := by
      intro a j o h17
      rw [jEr_q h17, jEr_q (S := jsR S a j.toNatClampNeg o) h17]
      rw [vp_cell_q, vp_cell_q, arrV_store]
      congr 1
      funext q
      show updV _ _ _ q = va_rf ((ju S.1.2.2.1 a j.toNatClampNeg o a q).map _)
      rw [ju_s]
      unfold updV jup
      split <;> rfl
    have hz := jpo_inv h; clear h; rcases hz with ⟨r, rfl, h⟩ | ⟨bb, r, rfl, h⟩
    · have hz := jp1_inv h; clear h; obtain ⟨j, r, rfl, h⟩ := hz; have hz := jpr_inv h; clear h; obtain ⟨a, r, rfl, h⟩ := hz; have hz := ite_inv h; clear h; obtain ⟨hka, h⟩ := hz; have hz := cond_inv h; clear h; obtain ⟨hin, h⟩ := hz
      obtain ⟨g1, g2⟩ := jin_vp hin
      refine (hK _ _ _ (jsR S a j.toNatClampNeg none) hlen h).heap rfl rfl fun H locs ls cells slots Q hw hls kk => ?_
      obtain ⟨ha0, hc⟩ := jrow (a := a) hw (by omega) (by omega)
      obtain ⟨ty, t1, -, -, -, -, t2⟩ := jarr hKn (k := jK S a) (by omega) (by omega)
      obtain ⟨C, rfl⟩ := t2 hka.1
      have hc2 := hc
      rw [jEr_q hka.1] at hc2
      refine va_WaastN (C := C) hx hb hc2 (t1 _ _) (fun q => by cases q) (by show ¬ (j < 0 ∨ (arrV _ _ _).slots.size ≤ _); rw [arrV_size]; exact g1) rfl rfl hdg (j_write (S' := jsR S a j.toNatClampNeg none) hw ha0 (by omega) rfl rfl rfl (fun c hc => rfl) (fun c hc => rfl) (fun c hc => ju_n hc) (fun h14 => by omega) ?_ (fun y hy => by rw [List.mem_singleton.mp hy]) kk)
      rw [← hcell a j none hka.1, jEr_q hka.1]
      rfl
    · have hz := jp1_inv h; clear h; obtain ⟨j, r, rfl, h⟩ := hz; have hz := jpr_inv h; clear h; obtain ⟨a, r, rfl, h⟩ := hz; have hz := ite_inv h; clear h; obtain ⟨hka, h⟩ := hz; have hz := ite_inv h; clear h; obtain ⟨hkb, h⟩ := hz; have hz := cond_inv h; clear h; obtain ⟨hin, h⟩ := hz
      obtain ⟨g1, g2⟩ := jin_vp hin
      refine (hK _ _ _ (jsR S a j.toNatClampNeg (some bb)) hlen h).heap rfl rfl fun H locs ls cells slots Q hw hls kk => ?_
      obtain ⟨ha0, hc⟩ := jrow (a := a) hw (by omega) (by omega)
      have hel : ∃ ci, ci < 13 ∧ jK S bb = ci + 1 ∧ (jays cy)[jK S a - 14]? = some (cy (jK S a), .object (jow ci)) := by
        rcases (show jK S a = 17 ∨ jK S a = 18 ∨ jK S a = 19 by omega) with h7 | h7 | h7 <;> rw [h7] at hkb ⊢
        · exact ⟨1, by decide, hkb, rfl⟩
        · exact ⟨8, by decide, hkb, rfl⟩
        · exact ⟨9, by decide, hkb, rfl⟩
      obtain ⟨ci, hci, hkb', hty⟩ := hel
      obtain ⟨t1, t2⟩ := hKn.1.2 _ _ hty
      have hb0 := jnz hw hkb' hci
      have hatb := (hw.2.2.2.2.1 bb hb0 (by rw [hkb']; omega)).2.2
      rw [jE_obj hkb' hci] at hatb
      obtain ⟨r', hr', cellV, v1, v2, v3, -⟩ := hatb
      have hcls := (hKn.1.1 ci _ (jcl_at hci)).2
      obtain ⟨kA, comp, k1, k2, k3, -⟩ := t2
      have hcomp : comp = D.1 ci := Option.some.inj (k3.symm.trans hcls.1)
      subst hcomp
      obtain ⟨kC, hkC, -⟩ := hcls.2
      have hc2 := hc
      rw [jEr_q hka.1] at hc2
      refine W.aast hx hb hc2 (fun q h => by cases h) (fun h => by cases h) k1 k2 rfl hkC ⟨fun q => g1 (Or.inl q), by show _ < (arrV _ _ _).slots.size; rw [arrV_size]; exact g2⟩ v1 (fun q h => by rw [v3] at h; cases h) (by rw [v2]; exact hkC) (by rw [v2]; exact va_assign hcls) rfl rfl hdg (j_write (S' := jsR S a j.toNatClampNeg (some bb)) hw ha0 (by omega) rfl rfl rfl (fun c hc => rfl) (fun c hc => rfl) (fun c hc => ju_n hc) (fun h14 => by omega) ?_ (fun y hy => by rw [List.mem_singleton.mp hy]) kk)
      rw [← hcell a j (some bb) hka.1, jEr_q hka.1]
      rfl
  | arraylength =>
    rw [jq_arraylength] at h
    obtain rfl := jlen1 hln
    have hz := jpr_inv h; clear h; obtain ⟨a, r, rfl, h⟩ := hz; have hz := ite_inv h; clear h; obtain ⟨hka, h⟩ := hz
    refine (hK _ _ _ _ hlen h).pure fun H locs ls cells slots Q hw hl k => ?_
    by_cases ha0 : a = 0
    · subst ha0
      obtain ⟨scr, s1, s2, s3, s4, s5⟩ := hw.2.2.1
      exact W.alen (n := Int32.ofNat (jLn S 0)) hx hb s1 s2 (by rw [s4]) rfl rfl hdg k
    · have h20 := (hw.2.2.2.2.1 a ha0 (by omega)).1
      obtain ⟨-, hc⟩ := jrow (a := a) hw hka (by omega)
      obtain ⟨ty, t1, -⟩ := jarr hKn (k := jK S a) hka (by omega)
      rcases (show (jK S a = 14 ∨ jK S a = 15) ∨ jK S a = 16 ∨ 17 ≤ jK S a by omega) with hq | hq | hq
      · rw [jEr_i hq] at hc
        exact W.alen (n := Int32.ofNat (jLn S a)) hx hb hc (t1 _ _) (by rw [vp_cell_i, arrV_size]) rfl rfl hdg k
      · rw [jEr_l hq] at hc
        exact W.alen (n := Int32.ofNat (jLn S a)) hx hb hc (t1 _ _) (by rw [vp_cell_l, arrV_size]) rfl rfl hdg k
      · rw [jEr_q hq] at hc
        exact W.alen (n := Int32.ofNat (jLn S a)) hx hb hc (t1 _ _) (by rw [vp_cell_q, arrV_size]) rfl rfl hdg k
  | _ => exact hi.elim
end JT

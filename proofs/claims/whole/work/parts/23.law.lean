/-! FROM THE PURE GOAL TO THE CLAIM: the law's run, as the mini machine has it -/
set_option maxRecDepth 100000
set_option maxHeartbeats 8000000
/-- the heap at the law's entry: the script alone -/
def jS0 (L : Nat) (xs : Nat → Int32) : jS := ((fun a => if a = 0 then 20 else 0, fun a => if a = 0 then L else 0, fun _ _ => none, 0, 0), fun a => if a = 0 then xs else fun _ => 0, fun _ _ => 0)
/-- THE PURE GOAL: on every script of at most 2048 ints the mini machine's law comes to 1, within the room -/
def jGoal : Prop := ∀ (L : Nat) (xs : Nat → Int32), L ≤ 2048 → ∃ S' : jS, jval 40 jlaw 0 [.ref 0, jjunk, jjunk, jjunk] [] (jS0 L xs) = some (some (.int 1), S') ∧ jC S' ≤ 600000 ∧ jQ S' ≤ 7302250
theorem jKn_at {s : State} {args : Array Value} (hts : ∀ w ∈ lw_tbl, w.before args s = true) : ∃ (D : va_G) (cy : Nat → ClassId), jKn D cy s := by
  have hgd : ∀ w ∈ jgd, w.before args s = true := fun w hw => hts w (List.mem_filter.mp hw).1
  have hk : ∀ ci, ∃ (cC : ClassId) (iS : Nat → Nat), ci < 13 → u_Kn s (jow ci) (jT ci) (jN ci) cC iS := by
    intro ci
    by_cases hc : ci < 13
    · obtain ⟨cC, iS, h⟩ := u_known (C := jow ci) (T := jT ci) (N := jN ci) (n := jN ci) hgd (jws_in hc) (hgd _ (jgd_at (jxp_all ci hc) rfl))
      exact ⟨cC, iS, fun _ => h⟩
    · exact ⟨0, fun _ => 0, fun h => absurd h hc⟩
  obtain ⟨⟨a1, a2, a3⟩, ⟨o1, o2, o3⟩, -⟩ := jac_all
  obtain ⟨c14, k14, p14, f14, g14, h14⟩ := Cond.arrayClass_spec (hts _ (jtp_in a1))
  obtain ⟨c15, k15, p15, f15, g15, h15⟩ := Cond.arrayClass_spec (hts _ (jtp_in a2))
  obtain ⟨c16, k16, p16, f16, g16, h16⟩ := Cond.arrayClass_spec (hts _ (jtp_in a3))
  have w17 := hts _ (jtp_in o1)
  have w18 := hts _ (jtp_in o2)
  have w19 := hts _ (jtp_in o3)
  obtain ⟨p17, c17, k17, e17, -, g17, h17, f17⟩ := Cond.arrayOver_spec w17
  obtain ⟨p18, c18, k18, e18, -, g18, h18, f18⟩ := Cond.arrayOver_spec w18
  obtain ⟨p19, c19, k19, e19, -, g19, h19, f19⟩ := Cond.arrayOver_spec w19
  refine ⟨(fun ci => Classical.choose (hk ci), fun ci => Classical.choose (Classical.choose_spec (hk ci))), fun k => match k with
    | 14 => c14
    | 15 => c15
    | 16 => c16
    | 17 => c17
    | 18 => c18
    | _ => c19, ⟨fun ci q hq => ?_, fun k q hq => ?_⟩, ⟨va_AO.of w17, va_AO.of w18, va_AO.of w19⟩, fun w hw => ?_⟩
  · have hc : ci < 13 := by
      have := (List.getElem?_eq_some_iff.mp hq).1
      simpa [jcl] using this
    rw [jcl_at hc] at hq
    cases hq
    exact Classical.choose_spec (Classical.choose_spec (hk ci)) hc
  · match k, hq with
    | 0, hq => cases hq; exact ⟨fun n z => ⟨fun k h => (by cases h), k14, g14, p14, h14⟩, f14⟩
    | 1, hq => cases hq; exact ⟨fun n z => ⟨fun k h => (by cases h), k15, g15, p15, h15⟩, f15⟩
    | 2, hq => cases hq; exact ⟨fun n z => ⟨fun k h => (by cases h), k16, g16, p16, h16⟩, f16⟩
    | 3, hq => cases hq; exact ⟨fun n z => ⟨fun k h => (by cases h), k17, g17, p17, h17⟩, ⟨k17, p17, g17, h17, e17, f17⟩⟩
    | 4, hq => cases hq; exact ⟨fun n z => ⟨fun k h => (by cases h), k18, g18, p18, h18⟩, ⟨k18, p18, g18, h18, e18, f18⟩⟩
    | 5, hq => cases hq; exact ⟨fun n z => ⟨fun k h => (by cases h), k19, g19, p19, h19⟩, ⟨k19, p19, g19, h19, e19, f19⟩⟩
    | k + 6, hq => simp [jays] at hq
  · obtain ⟨h1, h2⟩ := List.mem_filter.mp hw
    have h3 := hts w h1
    cases w <;> first | (cases h2; done) | exact va_Nw.of rfl h3
theorem jWd_0 {b L : Nat} {xs : Nat → Int32} {D : va_G} {cy : Nat → ClassId} {s : State} (hX : va_X b L xs s s.heap) (hbl : b < s.heap.size) : jWd b s.heap.size D cy (jS0 L xs) s s.heap := by
  refine ⟨hbl, rfl, hX, rfl, fun a ha hk => absurd ?_ hk, fun a h14 => ?_⟩
  · exact if_neg ha
  · have : (if a = 0 then 20 else 0) = 14 := h14
    split at this <;> omega
theorem whole_of (hg : jGoal) {p : Program} {e : Env} {s : State} {m : MethodId} {below : List Frame} {meth : Method} {c : Code} (l : Launch) {b L : Nat} {xs : Nat → Int32} (hL : L ≤ 2048) (C0 : lw_At p s m meth c b L xs) : W p l e room_1 s m #[Value.ref b] below meth c s.heap [] 0 0 (lw_Z below #[Value.ref b] s) (entryFrame m ([Value.ref b] : List Value).toArray 4) := by
  obtain ⟨hx, hb, hr, hml, hown, hts, hX, hbl, hlocks, hgv⟩ := C0
  obtain ⟨S', hv, hc1, hc2⟩ := hg L xs hL
  obtain ⟨n, hn⟩ := jval_iff.mp hv
  obtain ⟨D, cy, hKn⟩ := jKn_at hts
  have hC : jCx s.heap.size D cy jlaw p s m #[Value.ref b] meth c := ⟨hx, hb, hr, hml, hown, fun w hw => hts w (List.mem_filter.mp hw).1, hlocks, (fun h => by cases h), hKn, Nat.le_refl _, by decide⟩
  have hle := jrun_le n _ _ _ _ _ _ _ hn
  have hat := j_sound (b := b) (D := D) (cy := cy) (l := l) hbl n 40 jlaw 0 _ _ _ _ hn p e room_1 s m #[Value.ref b] below meth c (jC S') (jQ S') hC hc1 hc2 (by decide) (by decide) rfl
  have hl1 := lv_entry ([.ref b] : List Value) (n := 4) (Nat.le_of_ble_eq_true rfl)
  rw [lg_entry_eq]
  have hl2 : lv_has (lg_sl ([.ref b] : List Value) ++ List.replicate (4 - (lg_sl ([.ref b] : List Value)).length) Slot.unset).toArray (jmt jlaw).2.1 (jA (jρ b s.heap.size) [.ref 0, jjunk, jjunk, jjunk]) := by
    refine lv_less (l := lv_args 0 [.ref b]) hl1 ?_
    intro q hq
    obtain ⟨v, h1, h2, h3⟩ := jA_mem.mp hq
    obtain ⟨i, w⟩ := q
    match i, h1 with
    | 0, h1 =>
      have e1 : Value.ref 0 = v := by simpa using h1
      subst e1
      have e2 : w = Value.ref b := h3
      rw [e2]
      exact List.mem_cons_self
    | 1, h1 =>
      have e1 : jjunk = v := by simpa using h1
      exact absurd e1.symm h2
    | 2, h1 =>
      have e1 : jjunk = v := by simpa using h1
      exact absurd e1.symm h2
    | 3, h1 =>
      have e1 : jjunk = v := by simpa using h1
      exact absurd e1.symm h2
    | i + 4, h1 => simp at h1
  have hW := hat.2 s.heap [] _ 0 0 (jWd_0 hX hbl) hl2 va_S.rf (by show 0 + (jC S' - 0) = jC S'; omega) (by show 0 + (jQ S' - 0) = jQ S'; omega)
  intro T hT X
  obtain ⟨t, st, o, r1, r2, ⟨ho, -, -⟩, Lc, ⟨f1, f2, f3⟩, hLc⟩ := hW T hT X
  refine ⟨t, st, o, r1, r2, ho, f1, f2, f3.weaken (fun y hy hlt => absurd hlt (Nat.not_lt.mpr (hLc y hy))) hc1 hc2⟩

/-! calls: from what the mini machine's callee comes to, to what the real one does -/
set_option maxRecDepth 100000
set_option maxHeartbeats 4000000
def jws (n : Nat) : List Cond := jcwd n :: jgd
def jrmR (d mc ms : Nat) : Room := { frames := d + 1, cells := mc, slots := ms, locals := 48 * (d + 1) }
def jPc (b lo : Nat) (D : va_G) (cy : Nat → ClassId) (as : List Value) (S : jS) : Array Value → State → Prop := va_Pc (as.map (jrv (jρ b lo))) (fun U => jWd b lo D cy S U U.heap ∧ jKn D cy U)
def jMet (b lo : Nat) (D : va_G) (cy : Nat → ClassId) (l : Launch) (d n : Nat) (as : List Value) (S : jS) (v : Option Value) (S1 : jS) : Prop := (jC S ≤ jC S1 ∧ jQ S ≤ jQ S1) ∧ Met l (jmn n) (jws n) (jrmR d (jC S1 - jC S) (jQ S1 - jQ S)) (jPc b lo D cy as S) (jQc b lo D cy (v, S1)) (jC S1 - jC S) (jQ S1 - jQ S) (fun q => lo ≤ q)
theorem jWd.moved {b lo : Nat} {D : va_G} {cy : Nat → ClassId} {S : jS} {u U : State} {H : Heap} (hvm : u.vm.Alike U.vm) (h : jWd b lo D cy S u H) : jWd b lo D cy S U H := ⟨h.1, h.2.1, h.2.2.1.moved hvm, h.2.2.2⟩
theorem jKn.warm {D : va_G} {cy : Nat → ClassId} {s U : State} (hW : s.WarmedH U.vm) (h : jKn D cy s) : jKn D cy U := by
  obtain ⟨h1, ⟨h2, h3, h4⟩, h5⟩ := h
  refine ⟨va_K.moved hW.alike h1, ⟨h2.moved hW.alike, h3.moved hW.alike, h4.moved hW.alike⟩, fun w hw => ?_⟩
  have hz := h5 w hw
  have hn := (List.mem_filter.mp hw).2
  cases w <;> first | (cases hn; done) | exact va_Nw.warmF hW hz | exact va_Nw.warmM hW hz
theorem jKn.same {D : va_G} {cy : Nat → ClassId} {s U : State} (hv : s.vm = U.vm) (h : jKn D cy s) : jKn D cy U := by
  obtain ⟨h1, ⟨h2, h3, h4⟩, h5⟩ := h
  have ha : s.vm.Alike U.vm := by rw [hv]; exact Vm.Alike.refl _
  refine ⟨va_K.moved ha h1, ⟨h2.moved ha, h3.moved ha, h4.moved ha⟩, fun w hw => ?_⟩
  have hz := h5 w hw
  have hn := (List.mem_filter.mp hw).2
  cases w <;> first | (cases hn; done) | exact va_Nw.same rfl hv hz
theorem jPc_blind {b lo : Nat} {D : va_G} {cy : Nat → ClassId} {as : List Value} {S : jS} : FrameBlind (jPc b lo D cy as S) := by
  intro a U g mk h
  obtain ⟨h1, h2, h3⟩ := h
  exact ⟨h1, jWd.moved (u := U) (U := U.calling g mk a) (Vm.Alike.refl U.vm) h2, jKn.same (s := U) (U := U.calling g mk a) rfl h3⟩
theorem jcw_in {n : Nat} (hn : n < 282) (hl : n ≠ jlaw) : jcwd n ∈ jgd := jgd_at (jcw_all n (Nat.zero_le n) hn hl) rfl
theorem jgd_good {n : Nat} (hn : n < 282) (hl : n ≠ jlaw) : GoodIn jgd (jws n) := by
  intro w hw
  rcases List.mem_cons.mp hw with h | h
  · subst h
    exact ⟨jcw_in hn hl, good_of_word rfl⟩
  · exact ⟨h, good_of_word (List.mem_filter.mp h).2⟩
theorem jow_ok_spec {n : Nat} (hn : n < 282) : (jmt n).1 < 16 ∧ (jmt n).2.1 ≤ 20 ∧ (jmn n).cls = jow (jmt n).1 ∧ (jmn n).cls ≠ "java/lang/invoke/MethodHandle" ∧ (jmn n).cls ≠ "java/lang/invoke/VarHandle" ∧ (parseMethodDescriptor (jmn n).desc).map (fun d => d.parameters.length) = some (jmt n).2.2.2.1 ∧ plainName (jmn n).cls = true := by
  have h := jow_all n hn
  unfold jow_ok at h
  simp only [Bool.and_eq_true, decide_eq_true_eq] at h
  obtain ⟨⟨⟨⟨⟨⟨h1, h2⟩, h3⟩, h4⟩, h5⟩, h6⟩, h7⟩ := h
  exact ⟨h1, h2, h3, h4, h5, h6, h7⟩
theorem jbeq_f {a b : Nat} (h : a ≠ b) : a.beq b = false := by
  cases hb : a.beq b with
  | false => rfl
  | true => exact absurd (Nat.eq_of_beq_eq_true hb) h
theorem jmw_any {own idx n nest pl : Nat} (hn : n < 282) : jmw own (idx, n, nest, pl) = bif nest.beq 0 then .methodLink (jow own) idx (jmn n) else .methodLinkNest (jow own) idx (jmn n) "TextValues" := by
  unfold jmw
  dsimp only
  rw [jbeq_f (show n ≠ 1000 by omega), jbeq_f (show n ≠ 1001 by omega), jbeq_f (show n ≠ 1002 by omega), jbeq_f (show n ≠ 1003 by omega)]
  rfl
theorem jmw_ord {own idx n pl : Nat} (hn : n < 282) : jmw own (idx, n, 0, pl) = .methodLink (jow own) idx (jmn n) := jmw_any hn
section JCL
variable {b lo : Nat} {D : va_G} {cy : Nat → ClassId} {mi : Nat} {p : Program} {l : Launch} {e : Env} {R : Room} {s : State} {m : MethodId} {args : Array Value} {below : List Frame} {meth : Method} {c : Code} {mc ms : Nat} {out : Option Value × jS} {pc : Nat} {lv st rest : List Value} {S S1 : jS} {v : Option Value}
theorem jAt.call (hmc : mc ≤ R.cells) (hms : ms ≤ R.slots) {arr : Array Value} (h1 : jC S ≤ jC S1 ∧ jQ S ≤ jQ S1) (hk : jAt b lo D cy mi p l e R s m args below meth c mc ms out (pc + 3) (jklp (jkl mi) (pc + 3) lv) (v.toList ++ rest) S1)
    (run : ∀ (H : Heap) (locs : List Loc) (ls : Array Slot) (cells slots : Nat), jWd b lo D cy S s H → ls.size = (jmt mi).2.1 → cells + (jC S1 - jC S) ≤ R.cells → slots + (jQ S1 - jQ S) ≤ R.slots → va_Run p l e R s m args below meth c H locs cells slots (jC S1 - jC S) (jQ S1 - jQ S) (F0 m pc ls (st.map (jrv (jρ b lo)))) (rest.map (jrv (jρ b lo))) (jQc b lo D cy (v, S1) arr) (fun q => lo ≤ q)) :
    jAt b lo D cy mi p l e R s m args below meth c mc ms out pc lv st S := by
  obtain ⟨⟨k1, k2⟩, k3⟩ := hk
  refine ⟨⟨by omega, by omega⟩, fun H locs ls cells slots hw hl hS e1 e2 => ?_⟩
  intro T hT X
  obtain ⟨v', st₀, t, T', L, h0, X', hL, f1, f2, ⟨hv, hwd, hF⟩, go⟩ := run H locs ls cells slots hw hl.1 (by omega) (by omega) T hT X
  cases hv
  have hal : t.vm.Alike s.vm := by rw [← f2]; exact X'.warmed.alike.symm
  rw [← f1] at hwd
  obtain ⟨t2, a1, b1⟩ := k3 T'.heap (locs ++ L) ls (cells + (jC S1 - jC S)) (slots + (jQ S1 - jQ S)) (hwd.moved hal) (lv_less hl jA_klp)
    ⟨Nat.le_trans hS.1 (by rw [f1, ← h0]; exact hF.1), fun q q1 q2 => by rw [f1, hF.2 q (by rw [h0]; exact Nat.lt_of_lt_of_le q1 hS.1) q2, h0]; exact hS.2.1 q q1 q2, fun x hx => (List.mem_append.mp hx).elim (hS.2.2 x) (hL x)⟩ (by omega) (by omega) T' rfl X'
  refine ⟨t2, go t2 ?_, b1⟩
  have es : (v.toList ++ rest).map (jrv (jρ b lo)) = (Option.map (jrv (jρ b lo)) v).toList ++ rest.map (jrv (jρ b lo)) := by cases v <;> simp
  rw [es] at a1
  exact a1
theorem jroom {d n : Nat} (hn : n < 282) (hfr : d + 1 + 1 ≤ R.frames) (hlo : 48 * (d + 1 + 1) ≤ R.locals) : (jrmR d (jC S1 - jC S) (jQ S1 - jQ S)).frames + 1 ≤ R.frames ∧ 8 + ((jmt n).2.1 + 11) + (jrmR d (jC S1 - jC S) (jQ S1 - jQ S)).locals ≤ R.locals := by
  have := (jow_ok_spec hn).2.1
  exact ⟨hfr, by show 8 + ((jmt n).2.1 + 11) + 48 * (d + 1) ≤ R.locals; omega⟩
theorem jcatE (rest : List Value) (ρ : Nat → Nat) : ((rest.map (jrv ρ)).map fun v => v.category).sum = jcat rest := by
  unfold jcat
  rw [List.map_map]
  congr 1
  apply List.map_congr_left
  intro v _
  exact jrv_cat ρ v
/-- one cell of the world as a list of one -/
theorem jWd.one {H : Heap} {a : Nat} (hw : jWd b lo D cy S s H) (ha : a ≠ 0) (hk : jK S a ≠ 0) : va_P D jcl [(jρ b lo a, jE (jρ b lo) cy S a)] H := by
  intro k q hq
  match k, hq with
  | 0, hq => cases hq; exact (hw.2.2.2.2.1 a ha hk).2.2
  | k + 1, hq => simp at hq
theorem jnz {a ci : Nat} {H : Heap} (hw : jWd b lo D cy S s H) (h : jK S a = ci + 1) (hc : ci < 13) : a ≠ 0 := by
  intro h0
  subst h0
  rw [hw.2.2.2.1] at h
  omega
theorem j_callV {d n idx a nest pl : Nat} {as : List Value} (hC : jCx lo D cy mi p s m args meth c) (hfr : d + 1 + 1 ≤ R.frames) (hlo : 48 * (d + 1 + 1) ≤ R.locals) (hn : n < 282) (hl : n ≠ jlaw) (hkind : (jmt n).2.2.2.2.1 = 0) (hci : (jmt n).1 < 13) (hlink : jlnk (jmt mi).1 idx = some (n, nest, pl)) (hnest : nest = 0) (hdg : decode (jby mi) pc = .ok (.invokevirtual idx, 3))
    (hst : st = as.reverse ++ .ref a :: rest) (has : as.length = (jmt n).2.2.2.1) (hcat : jcat rest ≤ 8) (hka : jK S a = (jmt n).1 + 1) (hM : jMet b lo D cy l d n (.ref a :: as) S v S1) :
    ∀ (H : Heap) (locs : List Loc) (ls : Array Slot) (cells slots : Nat), jWd b lo D cy S s H → ls.size = (jmt mi).2.1 → cells + (jC S1 - jC S) ≤ R.cells → slots + (jQ S1 - jQ S) ≤ R.slots → va_Run p l e R s m args below meth c H locs cells slots (jC S1 - jC S) (jQ S1 - jQ S) (F0 m pc ls (st.map (jrv (jρ b lo)))) (rest.map (jrv (jρ b lo))) (jQc b lo D cy (v, S1) ((.ref a :: as).map (jrv (jρ b lo))).toArray) (fun q => lo ≤ q) := by
  intro H locs ls cells slots hw hls h1 h2
  obtain ⟨hx, hb, hr, hml, hown, hts, hlk, hini, hKn, hlo', hmi⟩ := hC
  obtain ⟨o1, o2, o3, o4, o5, o6, o7⟩ := jow_ok_spec hn
  subst hnest
  have hown16 := (jow_ok_spec hmi).1
  have hl1 := (jlk_all _ hown16 _ (jfind_mem hlink)).2
  have hmw : jmw (jmt mi).1 (idx, n, 0, pl) = .methodLink (jow (jmt mi).1) idx (jmn n) := by
    exact jmw_ord hn
  rw [hmw] at hl1
  have hlinkw := hts _ (jgd_at hl1 rfl)
  have hinitw := hts _ (jgd_at (jip_all _ o1) rfl)
  have hk1 := jmk_all n hn hl
  have hmk : jmk n = .instanceMethod (jmn n) := by unfold jmk; rw [hkind]; rfl
  rw [hmk] at hk1
  have hinst := hts _ (jgd_at hk1 rfl)
  have hsel := hts _ (jgd_at (jsl_all n hn hl hkind) rfl)
  have ha0 := jnz hw hka hci
  have hone := hw.one ha0 (by rw [hka]; omega)
  rw [jE_obj hka hci] at hone
  refine va_runV (As := as.map (jrv (jρ b lo))) (b := jρ b lo a) (nL := (jmt mi).2.1) (Ts := jgd) (C := (jmn n).cls) (own := jow (jmt mi).1) ⟨hx, hb, hml, hown, hts⟩ hM.2 ⟨callB_of (jmt n).2.2.2.1 hts (jgd_good hn hl) rfl rfl rfl (by rw [o3]; exact hinitw) hlinkw ⟨o4, o5, o6⟩ (jroom hn hfr hlo), hinst, hsel⟩ ⟨jPc_blind, ?_, fun U hU hW => ⟨rfl, ?_, hKn.warm hW⟩⟩ rfl (by rw [List.length_map]; exact has) hls ?_ ?_ hdg ⟨h1, h2⟩
  · rw [o3]
    exact va_recv hKn.1 hone (jcl_at hci) (q0 := 0) rfl
  · rw [hU]; exact hw.moved hW.alike
  · rw [hst]
    simp [jrv]
  · show 2 * 0 + _ ≤ 8
    rw [jcatE]; omega
theorem j_callI {d n idx a nest pl : Nat} {as : List Value} (hC : jCx lo D cy mi p s m args meth c) (hfr : d + 1 + 1 ≤ R.frames) (hlo : 48 * (d + 1 + 1) ≤ R.locals) (hn : n < 282) (hl : n ≠ jlaw) (hkind : (jmt n).2.2.2.2.1 = 2) (hlink : jlnk (jmt mi).1 idx = some (n, nest, pl)) (hnest : nest = 0) (hret : jrt n = none) (hdg : decode (jby mi) pc = .ok (.invokespecial idx, 3))
    (hst : st = as.reverse ++ .ref a :: rest) (has : as.length = (jmt n).2.2.2.1) (hcat : jcat rest ≤ 8) (hM : jMet b lo D cy l d n (.ref a :: as) S v S1) :
    ∀ (H : Heap) (locs : List Loc) (ls : Array Slot) (cells slots : Nat), jWd b lo D cy S s H → ls.size = (jmt mi).2.1 → cells + (jC S1 - jC S) ≤ R.cells → slots + (jQ S1 - jQ S) ≤ R.slots → va_Run p l e R s m args below meth c H locs cells slots (jC S1 - jC S) (jQ S1 - jQ S) (F0 m pc ls (st.map (jrv (jρ b lo)))) (rest.map (jrv (jρ b lo))) (jQc b lo D cy (v, S1) ((.ref a :: as).map (jrv (jρ b lo))).toArray) (fun q => lo ≤ q) := by
  intro H locs ls cells slots hw hls h1 h2
  obtain ⟨hx, hb, hr, hml, hown, hts, hlk, hini, hKn, hlo', hmi⟩ := hC
  obtain ⟨o1, o2, o3, o4, o5, o6, o7⟩ := jow_ok_spec hn
  subst hnest
  have hown16 := (jow_ok_spec hmi).1
  have hl1 := (jlk_all _ hown16 _ (jfind_mem hlink)).2
  have hmw : jmw (jmt mi).1 (idx, n, 0, pl) = .methodLink (jow (jmt mi).1) idx (jmn n) := by
    exact jmw_ord hn
  rw [hmw] at hl1
  have hlinkw := hts _ (jgd_at hl1 rfl)
  have hinitw := hts _ (jgd_at (jip_all _ o1) rfl)
  have hk1 := jmk_all n hn hl
  have hmk : jmk n = .instanceMethod (jmn n) := by unfold jmk; rw [hkind]; rfl
  rw [hmk] at hk1
  have hinst := hts _ (jgd_at hk1 rfl)
  have hG := jgd_good hn hl
  refine va_runI (As := as.map (jrv (jρ b lo))) (b := jρ b lo a) (nL := (jmt mi).2.1) (Ts := jgd) (own := jow (jmt mi).1) (bytes := jby n) (maxL := (jmt n).2.1) ⟨hx, hb, hml, hown, hts⟩ hM.2 ⟨callB_of (jmt n).2.2.2.1 hts hG (by unfold jws jcwd; rw [hret]) rfl rfl (by rw [o3]; exact hinitw) hlinkw ⟨o4, o5, o6⟩ (jroom hn hfr hlo), jin_all n hn hkind, hinst⟩ ⟨jPc_blind, fun U hU hW => ⟨rfl, ?_, hKn.warm hW⟩⟩ rfl (by rw [List.length_map]; exact has) hls ?_ ?_ hdg ⟨h1, h2⟩
  · rw [hU]; exact hw.moved hW.alike
  · rw [hst]
    simp [jrv]
  · show 2 * 0 + _ ≤ 8
    rw [jcatE]; omega
theorem j_callS {d n idx nest pl : Nat} {as : List Value} (hC : jCx lo D cy mi p s m args meth c) (hfr : d + 1 + 1 ≤ R.frames) (hlo : 48 * (d + 1 + 1) ≤ R.locals) (hn : n < 282) (hl : n ≠ jlaw) (hkind : (jmt n).2.2.2.2.1 = 1) (hlink : jlnk (jmt mi).1 idx = some (n, nest, pl)) (hdg : decode (jby mi) pc = .ok (.invokestatic idx, 3))
    (hst : st = as.reverse ++ rest) (has : as.length = (jmt n).2.2.2.1) (hcat : jcat rest ≤ 8) (hM : jMet b lo D cy l d n as S v S1) :
    ∀ (H : Heap) (locs : List Loc) (ls : Array Slot) (cells slots : Nat), jWd b lo D cy S s H → ls.size = (jmt mi).2.1 → cells + (jC S1 - jC S) ≤ R.cells → slots + (jQ S1 - jQ S) ≤ R.slots → va_Run p l e R s m args below meth c H locs cells slots (jC S1 - jC S) (jQ S1 - jQ S) (F0 m pc ls (st.map (jrv (jρ b lo)))) (rest.map (jrv (jρ b lo))) (jQc b lo D cy (v, S1) (as.map (jrv (jρ b lo))).toArray) (fun q => lo ≤ q) := by
  intro H locs ls cells slots hw hls h1 h2
  obtain ⟨hx, hb, hr, hml, hown, hts, hlk, hini, hKn, hlo', hmi⟩ := hC
  obtain ⟨o1, o2, o3, o4, o5, o6, o7⟩ := jow_ok_spec hn
  have hown16 := (jow_ok_spec hmi).1
  have hl1 := (jlk_all _ hown16 _ (jfind_mem hlink)).2
  have hinitw := hts _ (jgd_at (jip_all _ o1) rfl)
  have hk1 := jmk_all n hn hl
  have hmk : jmk n = .static (jmn n) := by unfold jmk; rw [hkind]; rfl
  rw [hmk] at hk1
  have hstat := hts _ (jgd_at hk1 rfl)
  have hst' : (F0 m pc ls (st.map (jrv (jρ b lo)))).stack = (as.map (jrv (jρ b lo))).reverse ++ rest.map (jrv (jρ b lo)) := by
    rw [hst]
    simp
  have hcat' : 2 * (F0 m pc ls (st.map (jrv (jρ b lo)))).monitorRoom + ((rest.map (jrv (jρ b lo))).map fun v => v.category).sum ≤ 8 := by
    show 2 * 0 + _ ≤ 8
    rw [jcatE]; omega
  rw [jmw_any hn] at hl1
  cases hne : nest.beq 0 with
  | true =>
    rw [hne] at hl1
    have hlinkw := hts _ (jgd_at hl1 rfl)
    exact va_runS (As := as.map (jrv (jρ b lo))) (nL := (jmt mi).2.1) (Ts := jgd) (own := jow (jmt mi).1) ⟨hx, hb, hml, hown, hts⟩ hM.2 ⟨callB_of (jmt n).2.2.2.1 hts (jgd_good hn hl) rfl rfl rfl (by rw [o3]; exact hinitw) hlinkw ⟨o4, o5, o6⟩ (jroom hn hfr hlo), hstat⟩ ⟨jPc_blind, fun U hU hW => ⟨rfl, by rw [hU]; exact hw.moved hW.alike, hKn.warm hW⟩⟩ rfl (by rw [List.length_map]; exact has) hls hst' hcat' hdg ⟨h1, h2⟩
  | false =>
    rw [hne] at hl1
    have hlinkw := hKn.2.2 _ (jnw_at hl1 rfl)
    exact va_runSN (As := as.map (jrv (jρ b lo))) (nL := (jmt mi).2.1) (Ts := jgd) (own := jow (jmt mi).1) ⟨hx, hb, hml, hown, hts⟩ hM.2 ⟨va_cnB (jmt n).2.2.2.1 hts (jgd_good hn hl) rfl rfl rfl hlinkw (by rw [o3]; exact hinitw) ⟨o4, o5, o6⟩ (jroom hn hfr hlo), hstat, trivial⟩ ⟨jPc_blind, fun U hU hW => ⟨rfl, by rw [hU]; exact hw.moved hW.alike, hKn.warm hW⟩⟩ rfl (by rw [List.length_map]; exact has) hls hst' hcat' hdg ⟨h1, h2⟩
end JCL

/-! one step: new cells, ends, the calls that are steps here -/
set_option maxRecDepth 100000
set_option maxHeartbeats 8000000
section JT
variable {b lo : Nat} {D : va_G} {cy : Nat → ClassId} {mi : Nat} {p : Program} {l : Launch} {e : Env} {R : Room} {s : State} {m : MethodId} {args : Array Value} {below : List Frame} {meth : Method} {c : Code} {mc ms : Nat} {out : Option Value × jS} {pc : Nat} {lv st : List Value} {S S' : jS}
variable {H : Heap} {locs : List Loc} {cells slots : Nat} {Q : State → Prop} {ls : Array Slot} {rest : List Value}
theorem jal_more {kd ln n : Nat} {H' : Heap} (hw : jWd b lo D cy S s H) (hkd : kd < 20) (hsz : H'.size = H.size + 1) (hq : ∀ q, q < H.size → H'[q]? = H[q]?) (hat : va_at D jcl (H.size, jE (jρ b lo) cy (jal S kd ln n) (jC S + 1)) H') : jWd b lo D cy (jal S kd ln n) s H' := by
  refine hw.more hsz hq rfl ?_ (fun c hc => jup_n hc) (fun c hc => jup_n hc) (fun c hc => jup_n hc) (fun c hc => jup_n hc) (fun c hc => jup_n hc) hat (fun j => ?_)
  · show jup S.1.1 (jC S + 1) kd (jC S + 1) < 20
    rw [jup_s]; exact hkd
  · show (jup S.2.1 (jC S + 1) (fun _ => 0) (jC S + 1) j).toInt8.toInt32 = jup S.2.1 (jC S + 1) (fun _ => 0) (jC S + 1) j
    rw [jup_s]
    rfl
theorem jal_K {kd ln n : Nat} : jK (jal S kd ln n) (jC S + 1) = kd := jup_s _ _ _
theorem jal_row {kd ln n : Nat} (h1 : 14 ≤ kd) : jE (jρ b lo) cy (jal S kd ln n) (jC S + 1) = .inl (cy kd, ln, if kd = 14 ∨ kd = 15 then .inl (fun _ => 0) else if kd = 16 then .inr (.inl (fun _ => 0)) else .inr (.inr (.inr (.inr (fun _ => none))))) := by
  rw [jE_row (by rw [jal_K]; exact h1)]
  unfold jEr
  rw [jal_K]
  show Sum.inl (cy kd, jup S.1.2.1 (jC S + 1) ln (jC S + 1), _) = _
  rw [jup_s]
  congr 3
  show (if kd = 14 ∨ kd = 15 then Sum.inl (jup S.2.1 (jC S + 1) (fun _ => 0) (jC S + 1)) else if kd = 16 then Sum.inr (Sum.inl (jup S.2.2 (jC S + 1) (fun _ => 0) (jC S + 1))) else Sum.inr (Sum.inr (Sum.inr (Sum.inr (fun j => (jup S.1.2.2.1 (jC S + 1) (fun _ => none) (jC S + 1) j).map _))))) = _
  rw [jup_s, jup_s, jup_s]
  rfl
theorem j_new {K : Nat → List Value → List Value → jS → jO} {kc : Nat → List Value → List Value → jO} {kr : Option Value → jS → jO} (hC : jCx lo D cy mi p s m args meth c) (hmc : mc ≤ R.cells) (hms : ms ≤ R.slots) (hlen : lv.length = (jmt mi).2.1) (hK : jNext b lo D cy mi p l e R s m args below meth c mc ms out K) {i : Instr} {len : Nat} (hdg : decode (jby mi) pc = .ok (i, len)) (hln : jlen i len = true)
    (hi : match i with
      | .new _ => True | .newarray _ => True | .anewarray _ => True
      | _ => False)
    (h : jstep (jmt mi).1 (jini mi) (jmt mi).2.2.1 i pc lv st S none (fun pc' lv' st' S' => K pc' (jklp (jkl mi) pc' lv') st' S') kc kr = some out) : jAt b lo D cy mi p l e R s m args below meth c mc ms out pc lv st S := by
  obtain ⟨hx, hb, hr, hml, hown, hts, hlk, hini, hKn, hlo', hmi⟩ := hC
  have hown16 := (jow_ok_spec hmi).1
  have hρ : ∀ H : Heap, jWd b lo D cy S s H → jρ b lo (jC S + 1) = H.size := fun H hw => by rw [jρ_pos (by omega), hw.2.1]; omega
  cases i with
  | new n =>
    rw [jq_new] at h
    obtain rfl := jlen3 hln
    cases hq : jcln (jmt mi).1 n with
    | none => rw [hq] at h; cases h
    | some q =>
      obtain ⟨ci, pl⟩ := q
      rw [hq] at h
      have hz := cond_inv h; clear h; obtain ⟨h13, h⟩ := hz
      have hci : ci < 13 := of_decide_eq_true h13
      have hz := cond_inv h; clear h; obtain ⟨hrm, h⟩ := hz
      have hcl := jck_all _ hown16 _ (jfind_mem hq)
      refine (hK _ _ _ (jal S (ci + 1) 0 (jN ci)) hlen h).alloc hmc hms rfl rfl fun H locs ls cells slots Q hw hc1 hc2 kk => ?_
      have hKc := hKn.1.1 ci _ (jcl_at hci)
      refine W.newcK hx hb hown (hts _ (jgd_at hcl rfl)) (hts _ (jgd_at (jxp_all ci hci) rfl)) (hts _ (jgd_at (jip_all ci (by omega)) rfl)) rfl hdg hc1 hc2 hKc.2.1 rfl fun H' kC hkC e1 z1 o1 => ?_
      have hw' : jWd b lo D cy (jal S (ci + 1) 0 (jN ci)) s H' := by
        refine jal_more hw (by omega) z1 o1 ?_
        rw [jE_obj jal_K hci]
        refine ⟨_, jcl_at hci, (u_born (jty ci) hts (jws_in hci) hKc hkC e1 (fun k hk => (jty_spec hci hk).1)).to (fun j hj => ?_)⟩
        rw [jFs_V hj]
        obtain ⟨-, -, y0, y1, y3, yr⟩ := jty_spec hci hj
        unfold jFv
        split
        · rename_i ht
          rw [y0 ht]
          show Value.int 0 = Value.int (jup S.2.1 (jC S + 1) (fun _ => 0) (jC S + 1) j)
          rw [jup_s]
        · rename_i ht
          rw [y1 ht]
          show Value.long 0 = Value.long (jup S.2.2 (jC S + 1) (fun _ => 0) (jC S + 1) j)
          rw [jup_s]
        · rename_i ht
          rw [y3 ht]
          show Value.int 0 = Value.int (jup S.2.1 (jC S + 1) (fun _ => 0) (jC S + 1) j)
          rw [jup_s]
        · rename_i h0 h1 h3
          have hrf := yr h0 h1 h3
          show _ = va_rf ((jup S.1.2.2.1 (jC S + 1) (fun _ => none) (jC S + 1) j).map _)
          rw [jup_s]
          cases hj : jty ci j <;> rw [hj] at hrf <;> first | (cases hrf; done) | rfl
      have k2 := kk H' hw' o1
      show W p l e R s m args below meth c H' locs (cells + 1) (slots + jN ci) Q (F0 m (pc + 3) ls (.ref H.size :: st.map (jrv (jρ b lo))))
      rw [← hρ H hw]
      exact k2
  | newarray t =>
    rw [jq_newarray] at h
    obtain rfl := jlen2 hln
    have hz := jp1_inv h; clear h; obtain ⟨x, r, rfl, h⟩ := hz
    have hz := cond_inv h; clear h; obtain ⟨ht0, h⟩ := hz
    have hz := cond_inv h; clear h; obtain ⟨hcc, h⟩ := hz
    rw [Bool.and_eq_true] at hcc
    have hx0 : ¬ x < 0 := fun q => absurd (jb_t.mp hcc.1) (Int32.not_le.mpr q)
    have hrm := jb_t.mp hcc.2
    refine (hK _ _ _ (jal S (jat t) x.toNatClampNeg x.toNatClampNeg) hlen h).alloc hmc hms rfl rfl fun H locs ls cells slots Q hw hc1 hc2 kk => ?_
    have hN : x.toNatClampNeg ≤ 7302250 := by
      have := hrm.2
      omega
    have key : ∀ (kd : Nat) (ty : FieldType) (hkd : kd = 14 ∨ kd = 15 ∨ kd = 16) (hja : jat t = kd) (hty : newarray.typeOf t = ty) (hac : (Cond.arrayClass ty).before args s = true) (hcy : s.vm.findClass ("[" ++ ty.toString) = some (cy kd)) (hby : componentBytes ty ≤ 8) (hdv : ∀ cA : ClassId, vp_cell cA (x.toNatClampNeg, if kd = 14 ∨ kd = 15 then .inl (fun _ => 0) else if kd = 16 then .inr (.inl (fun _ => 0)) else .inr (.inr (.inr (.inr (fun _ => none))))) = arrV cA x.toNatClampNeg (fun _ => defaultValue ty)), W p l e R s m args below meth c H locs cells slots Q (F0 m pc ls (.int x :: r.map (jrv (jρ b lo)))) := by
      intro kd ty hkd hja hty hac hcy hby hdv
      subst hty
      refine va_newaK hx hb hac rfl hdg rfl hx0 rfl (Nat.le_trans (Nat.mul_le_mul hN hby) (by decide)) hc1 hc2 rfl fun H' cA e1 z1 o1 hAr hNm => ?_
      have hcA : cA = cy kd := Option.some.inj (hNm.symm.trans hcy)
      subst hcA
      have hw' : jWd b lo D cy (jal S (jat t) x.toNatClampNeg x.toNatClampNeg) s H' := by
        refine jal_more hw (by omega) z1 o1 ?_
        rw [jal_row (by omega), hja]
        show H'[H.size]? = some _
        rw [e1, hdv]
      have k2 := kk H' hw' o1
      show W p l e R s m args below meth c H' locs (cells + 1) (slots + x.toNatClampNeg) Q (F0 m (pc + 2) ls (.ref H.size :: r.map (jrv (jρ b lo))))
      rw [← hρ H hw]
      exact k2
    obtain ⟨⟨a1, a2, a3⟩, -⟩ := jac_all
    have r14 : s.vm.findClass ("[" ++ FieldType.byte.toString) = some (cy 14) := (hKn.1.2 0 _ rfl).2
    have r15 : s.vm.findClass ("[" ++ FieldType.int.toString) = some (cy 15) := (hKn.1.2 1 _ rfl).2
    have r16 : s.vm.findClass ("[" ++ FieldType.long.toString) = some (cy 16) := (hKn.1.2 2 _ rfl).2
    cases t with
    | byte => exact key 14 .byte (Or.inl rfl) rfl rfl (hts _ (jgd_at a1 rfl)) r14 (by decide) (fun cA => rfl)
    | int => exact key 15 .int (Or.inr (Or.inl rfl)) rfl rfl (hts _ (jgd_at a2 rfl)) r15 (by decide) (fun cA => rfl)
    | long => exact key 16 .long (Or.inr (Or.inr rfl)) rfl rfl (hts _ (jgd_at a3 rfl)) r16 (by decide) (fun cA => rfl)
    | _ => exact absurd ht0 (by decide)
  | anewarray n =>
    rw [jq_anewarray] at h
    obtain rfl := jlen3 hln
    cases hq : jcln (jmt mi).1 n with
    | none => rw [hq] at h; cases h
    | some q =>
      obtain ⟨ci, pl⟩ := q
      rw [hq] at h
      have hz := jp1_inv h; clear h; obtain ⟨x, r, rfl, h⟩ := hz
      have hz := cond_inv h; clear h; obtain ⟨hc3, h⟩ := hz
      have hz := cond_inv h; clear h; obtain ⟨hcc, h⟩ := hz
      rw [Bool.and_eq_true] at hcc
      have hx0 : ¬ x < 0 := fun q => absurd (jb_t.mp hcc.1) (Int32.not_le.mpr q)
      have hrm := jb_t.mp hcc.2
      have hcl := jck_all _ hown16 _ (jfind_mem hq)
      refine (hK _ _ _ (jal S (bif ci.beq 1 then 17 else bif ci.beq 8 then 18 else 19) x.toNatClampNeg x.toNatClampNeg) hlen h).alloc hmc hms rfl rfl fun H locs ls cells slots Q hw hc1 hc2 kk => ?_
      have hN : x.toNatClampNeg ≤ 7302250 := by
        have := hrm.2
        omega
      have key : ∀ (kd : Nat) (C : String) (hkd : 17 ≤ kd ∧ kd ≤ 19) (hja : (bif ci.beq 1 then 17 else bif ci.beq 8 then 18 else 19) = kd) (hC : jow ci = C) (hao : va_AO C s) (hcy : s.vm.findClass ("[" ++ (FieldType.object C).toString) = some (cy kd)), W p l e R s m args below meth c H locs cells slots Q (F0 m pc ls (.int x :: r.map (jrv (jρ b lo)))) := by
        intro kd C hkd hja hC hao hcy
        subst hC
        refine W.anew hx hb hown (hts _ (jgd_at hcl rfl)) (va_AO.use hao) rfl hdg rfl hx0 (by omega) hc1 hc2 fun cA kA comp f1 f2 f3 f4 => ?_
        have hcA : cA = cy kd := Option.some.inj (f1.symm.trans hcy)
        subst hcA
        generalize hH1 : H.push ({ cls := cy kd, slots := Array.replicate x.toNatClampNeg .null, vm := .none } : Cell) = H'
        have z1 : H'.size = H.size + 1 := by rw [← hH1, Array.size_push]
        have e1 : H'[H.size]? = some (arrV (cy kd) x.toNatClampNeg (fun _ => .null)) := by rw [← hH1, Array.getElem?_push_size, ← arrV_new]
        have o1 : ∀ q : Nat, q < H.size → H'[q]? = H[q]? := fun q hq => by rw [← hH1, Array.getElem?_push, if_neg (Nat.ne_of_lt hq)]
        have hw' : jWd b lo D cy (jal S (bif ci.beq 1 then 17 else bif ci.beq 8 then 18 else 19) x.toNatClampNeg x.toNatClampNeg) s H' := by
          rw [hja]
          refine jal_more hw (by omega) z1 o1 ?_
          rw [jal_row (by omega), if_neg (by omega), if_neg (by omega)]
          show H'[H.size]? = some _
          rw [e1]
          rfl
        have k2 := kk H' hw' o1
        show W p l e R s m args below meth c H' locs (cells + 1) (slots + x.toNatClampNeg) Q (F0 m (pc + 3) ls (.ref H.size :: r.map (jrv (jρ b lo))))
        rw [← hρ H hw]
        exact k2
      obtain ⟨kA7, comp7, -, -, -, r17⟩ := (hKn.1.2 3 _ rfl).2
      obtain ⟨kA8, comp8, -, -, -, r18⟩ := (hKn.1.2 4 _ rfl).2
      obtain ⟨kA9, comp9, -, -, -, r19⟩ := (hKn.1.2 5 _ rfl).2
      rw [Bool.or_eq_true, Bool.or_eq_true] at hc3
      rcases hc3 with (hc3 | hc3) | hc3
      · have := Nat.eq_of_beq_eq_true hc3
        subst this
        exact key 17 _ (by decide) rfl rfl hKn.2.1.1 r17
      · have := Nat.eq_of_beq_eq_true hc3
        subst this
        exact key 18 _ (by decide) rfl rfl hKn.2.1.2.1 r18
      · have := Nat.eq_of_beq_eq_true hc3
        subst this
        exact key 19 _ (by decide) rfl rfl hKn.2.1.2.2 r19
  | _ => exact hi.elim
theorem j_ends {K : Nat → List Value → List Value → jS → jO} {kc : Nat → List Value → List Value → jO} (hC : jCx lo D cy mi p s m args meth c) {i : Instr} {len : Nat} (hdg : decode (jby mi) pc = .ok (i, len)) (hln : jlen i len = true)
    (hi : match i with
      | .ireturn => True | .lreturn => True | .areturn => True | .return_ => True
      | _ => False)
    (h : jstep (jmt mi).1 (jini mi) (jmt mi).2.2.1 i pc lv st S none (fun pc' lv' st' S' => K pc' (jklp (jkl mi) pc' lv') st' S') kc (fun v S' => some (v, S')) = some out) : jAt b lo D cy mi p l e R s m args below meth c mc ms out pc lv st S := by
  obtain ⟨hx, hb, hr, hml, hown, hts, hlk, hini, hKn, hlo', hmi⟩ := hC
  have hrt := jrt_all mi hmi
  unfold jrt_ok at hrt
  have fin : ∀ (v : Option Value) (hv : out = (v, S)) (row : ∀ (H : Heap) (locs : List Loc) (ls : Array Slot) (cells slots : Nat) (hq : ∀ t : State, t.heap = H → s.WarmedH t.vm → jQc b lo D cy out args s (.returned (v.map (jrv (jρ b lo)))) t) (hf : ∀ q ∈ locs, (fun q => lo ≤ q) q.base), W p l e R s m args below meth c H locs cells slots (MQ below (jQc b lo D cy out) args s cells slots (fun q => lo ≤ q)) (F0 m pc ls (st.map (jrv (jρ b lo))))), jAt b lo D cy mi p l e R s m args below meth c mc ms out pc lv st S := by
    intro v hv row
    subst hv
    refine ⟨⟨Nat.le_refl _, Nat.le_refl _⟩, fun H locs ls cells slots hw hl hS h1 h2 => ?_⟩
    have e1 : mc = cells := by rw [← h1]; show cells + (jC S - jC S) = cells; omega
    have e2 : ms = slots := by rw [← h2]; show slots + (jQ S - jQ S) = slots; omega
    subst e1 e2
    exact row H locs ls _ _ (fun t ht hW => ⟨rfl, by rw [ht]; exact hw.moved hW.alike, by rw [va_F, ht]; exact ⟨hS.1, hS.2.1⟩⟩) hS.2.2
  cases i with
  | ireturn =>
    rw [jq_ireturn] at h
    obtain rfl := jlen1 hln
    have hz := jp1_inv h; clear h; obtain ⟨x, r, rfl, h⟩ := hz
    have hz := jp0_inv h; clear h; obtain ⟨rfl, h⟩ := hz
    split at h
    · rename_i ht
      rw [ht] at hrt
      have hr1 : jrt mi = some .int := of_decide_eq_true hrt
      exact fin (some (.int x)) (Option.some.inj h).symm fun H locs ls cells slots hq hf => W.iret hx hb (by rw [hr, hr1]) hq hf hdg hlk
    · rename_i ht
      rw [ht] at hrt
      have hr1 : jrt mi = some .boolean := of_decide_eq_true hrt
      have hz := jif_inv h; clear h; obtain ⟨h01, h⟩ := hz
      exact fin (some (.int x)) (Option.some.inj h).symm fun H locs ls cells slots hq hf => W.zret hx hb (by rw [hr, hr1]) (by rcases h01 with rfl | rfl <;> rfl) hq hf hdg hlk
    · cases h
  | lreturn =>
    rw [jq_lreturn] at h
    obtain rfl := jlen1 hln
    have hz := jq1_inv h; clear h; obtain ⟨x, r, rfl, h⟩ := hz
    have hz := jp0_inv h; clear h; obtain ⟨rfl, h⟩ := hz
    split at h
    · rename_i ht
      rw [ht] at hrt
      have hr1 : jrt mi = some .long := of_decide_eq_true hrt
      exact fin (some (.long x)) (Option.some.inj h).symm fun H locs ls cells slots hq hf => W.lret hx hb (by rw [hr, hr1]) hq hf hdg hlk
    · cases h
  | areturn =>
    rw [jq_areturn] at h
    obtain rfl := jlen1 hln
    have hrr : (jmt mi).2.2.1 = 3 → ∃ rt, jrt mi = some rt ∧ ((∃ n, rt = .object n) ∨ ∃ t, rt = .array t) := by
      intro h3
      rw [h3] at hrt
      cases hj : jrt mi with
      | none => rw [hj] at hrt; cases hrt
      | some rt =>
        rw [hj] at hrt
        cases rt <;> first | (cases hrt; done) | exact ⟨_, rfl, Or.inl ⟨_, rfl⟩⟩ | exact ⟨_, rfl, Or.inr ⟨_, rfl⟩⟩
    have hz := jpo_inv h; clear h; rcases hz with ⟨r, rfl, h⟩ | ⟨a, r, rfl, h⟩
    · have hz := jp0_inv h; clear h; obtain ⟨rfl, h⟩ := hz
      split at h
      · rename_i ht
        obtain ⟨rt, g1, g2⟩ := hrr ht
        exact fin (some .null) (Option.some.inj h).symm fun H locs ls cells slots hq hf => W.aret hx hb (by rw [hr, g1]) g2 (Or.inl rfl) hq hf hdg hlk
      · cases h
    · have hz := jp0_inv h; clear h; obtain ⟨rfl, h⟩ := hz
      split at h
      · rename_i ht
        obtain ⟨rt, g1, g2⟩ := hrr ht
        exact fin (some (.ref a)) (Option.some.inj h).symm fun H locs ls cells slots hq hf => W.aret hx hb (by rw [hr, g1]) g2 (Or.inr ⟨_, rfl⟩) hq hf hdg hlk
      · cases h
  | return_ =>
    rw [jq_return_] at h
    obtain rfl := jlen1 hln
    have hz := jp0_inv h; clear h; obtain ⟨rfl, h⟩ := hz
    split at h
    · rename_i ht
      rw [ht] at hrt
      have hr1 : jrt mi = none := of_decide_eq_true hrt
      exact fin none (Option.some.inj h).symm fun H locs ls cells slots hq hf => W.vret hx hb (by rw [hr, hr1]) hq hf hdg hlk
    · cases h
  | _ => exact hi.elim
end JT

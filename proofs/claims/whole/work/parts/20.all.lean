/-! all steps -/
set_option maxRecDepth 100000
set_option maxHeartbeats 8000000
section JT
variable {b lo : Nat} {D : va_G} {cy : Nat → ClassId} {mi : Nat} {p : Program} {l : Launch} {e : Env} {R : Room} {s : State} {m : MethodId} {args : Array Value} {below : List Frame} {meth : Method} {c : Code} {mc ms : Nat} {out : Option Value × jS} {pc d : Nat} {lv st : List Value} {S : jS}
/-- what is known of the callees -/
def jMets (b lo : Nat) (D : va_G) (cy : Nat → ClassId) (l : Launch) (V : Nat → Nat → Nat → List Value → List Value → jS → jO) : Prop :=
  ∀ (d n : Nat) (as : List Value) (S : jS) (v : Option Value) (S1 : jS), n < 282 → n ≠ jlaw → (jexp as).length ≤ (jmt n).2.1 → V d n 0 (jent (jmt n).2.1 as) [] S = some (v, S1) → jMet b lo D cy l d n as S v S1
theorem jcw_inv {V : Nat → Nat → Nat → List Value → List Value → jS → jO} {d n : Nat} {as : List Value} {S : jS} {x : Option Value × jS} (h : jcw V d n as S = some x) : ∃ d', d = d' + 1 ∧ V d' n 0 (jent (jmt n).2.1 as) [] S = some x := by
  cases d with
  | zero => cases h
  | succ d => exact ⟨d, rfl, h⟩
theorem jtake {st rest : List Value} {k : Nat} (h : st.drop k = rest) (hk : k ≤ st.length) : st = (st.take k).reverse.reverse ++ rest ∧ (st.take k).reverse.length = k := by
  rw [List.reverse_reverse, ← h, List.take_append_drop, List.length_reverse, List.length_take]
  exact ⟨rfl, by omega⟩
theorem j_calls {V : Nat → Nat → Nat → List Value → List Value → jS → jO} {K : Nat → List Value → List Value → jS → jO} {kr : Option Value → jS → jO} (hC : jCx lo D cy mi p s m args meth c) (hmc : mc ≤ R.cells) (hms : ms ≤ R.slots) (hfr : d + 1 ≤ R.frames) (hlo : 48 * (d + 1) ≤ R.locals) (hlen : lv.length = (jmt mi).2.1) (hK : jNext b lo D cy mi p l e R s m args below meth c mc ms out K) (hM : jMets b lo D cy l V) {i : Instr} {len : Nat} (hdg : decode (jby mi) pc = .ok (i, len)) (hln : jlen i len = true)
    (hi : match i with
      | .invokevirtual _ => True | .invokespecial _ => True | .invokestatic _ => True
      | _ => False)
    (h : jstep (jmt mi).1 (jini mi) (jmt mi).2.2.1 i pc lv st S none (fun pc' lv' st' S' => K pc' (jklp (jkl mi) pc' lv') st' S') (fun n as rest => jret (jmt n).2.2.1 (jcw V d n as S) (fun vs S' => K (pc + 3) (jklp (jkl mi) (pc + 3) lv) (vs ++ rest) S')) kr = some out) : jAt b lo D cy mi p l e R s m args below meth c mc ms out pc lv st S := by
  have hmi := hC.2.2.2.2.2.2.2.2.2.2
  have hown16 := (jow_ok_spec hmi).1
  cases i with
  | invokevirtual n =>
    rw [jq_invokevirtual] at h
    obtain rfl := jlen3 hln
    cases hq : jlnk (jmt mi).1 n with
    | none => rw [hq] at h; cases h
    | some q =>
      obtain ⟨k, nest, pl⟩ := q
      rw [hq] at h
      dsimp only at h
      have hz := cond_inv h; clear h; obtain ⟨hc, h⟩ := hz
      simp only [Bool.and_eq_true, decide_eq_true_eq] at hc
      obtain ⟨⟨hc1, hc2⟩, hc3⟩ := hc
      have hz := jpr_inv h; clear h; obtain ⟨a, r, hdr, h⟩ := hz
      have hz := ite_inv h; clear h; obtain ⟨hka, h⟩ := hz
      have hz := cond_inv h; clear h; obtain ⟨hc, h⟩ := hz
      simp only [Bool.and_eq_true, decide_eq_true_eq] at hc
      have hz := jret_inv h; clear h; obtain ⟨w, S1, hr, h⟩ := hz
      obtain ⟨d', rfl, hr⟩ := jcw_inv hr
      have hne : k ≠ jlaw := by
        rcases (jlk_spec hown16 hq).1 with h | h
        · exact h.2
        · omega
      have hmet := hM d' k _ S w S1 hc2 hne hc.2 hr
      have hlt : (jmt k).2.2.2.1 ≤ st.length := by
        apply Classical.byContradiction
        intro hh
        rw [List.drop_eq_nil_of_le (by omega)] at hdr
        cases hdr
      obtain ⟨t1, t2⟩ := jtake hdr hlt
      have hcls : (jmt k).1 < 13 := by
        apply Classical.byContradiction
        intro hh
        have h16 := (jow_ok_spec hc2).1
        have hall := jvc_all k hc2 (Nat.eq_of_beq_eq_true hc3)
        omega
      exact jAt.call hmc hms hmet.1 (hK _ _ _ _ hlen h) (j_callV hC hfr hlo hc2 hne (Nat.eq_of_beq_eq_true hc3) hcls hq (Nat.eq_of_beq_eq_true hc1) hdg t1 t2 hc.1 hka hmet)
  | invokespecial n =>
    rw [jq_invokespecial] at h
    obtain rfl := jlen3 hln
    cases hq : jlnk (jmt mi).1 n with
    | none => rw [hq] at h; cases h
    | some q =>
      obtain ⟨k, nest, pl⟩ := q
      rw [hq] at h
      dsimp only at h
      cases hk : k.beq 1000 with
      | true =>
        rw [hk, cond_true] at h
        have hk1 := Nat.eq_of_beq_eq_true hk
        subst hk1
        have hz := jpr_inv h; clear h; obtain ⟨a, r, rfl, h⟩ := hz
        have hz := cond_inv h; clear h; obtain ⟨hc, h⟩ := hz
        have hcat := of_decide_eq_true hc
        have hlw := (jlk_spec hown16 hq).2
        obtain ⟨-, -, -, hoi, -⟩ := jac_all
        obtain ⟨hx, hb, hr, hml, hown, hts, hlk', hini, hKn, hlo', hmi'⟩ := hC
        refine (hK _ _ _ _ hlen h).pure fun H locs ls cells slots Q hw hl k => ?_
        refine W.objInit hx hb hown (hts _ (jgd_at hlw rfl)) (hts _ (jgd_at hoi rfl)) (hts _ (jgd_at joi_all rfl)) rfl (by rw [hml]; exact hl.1) rfl hdg (by omega) ?_ k
        show 2 * 0 + ((r.map (jrv (jρ b lo))).map fun v => v.category).sum + 12 ≤ R.locals
        rw [jcatE]
        omega
      | false =>
        rw [hk, cond_false] at h
        have hz := cond_inv h; clear h; obtain ⟨hc, h⟩ := hz
        simp only [Bool.and_eq_true, decide_eq_true_eq] at hc
        obtain ⟨⟨hc1, hc2⟩, hc3⟩ := hc
        have hz := jpr_inv h; clear h; obtain ⟨a, r, hdr, h⟩ := hz
        have hz := cond_inv h; clear h; obtain ⟨hc, h⟩ := hz
        simp only [Bool.and_eq_true, decide_eq_true_eq] at hc
        have hz := jret_inv h; clear h; obtain ⟨w, S1, hr, h⟩ := hz
        obtain ⟨d', rfl, hr⟩ := jcw_inv hr
        have hne : k ≠ jlaw := by
          rcases (jlk_spec hown16 hq).1 with h | h
          · exact h.2
          · omega
        have hmet := hM d' k _ S w S1 hc2 hne hc.2 hr
        have hlt : (jmt k).2.2.2.1 ≤ st.length := by
          apply Classical.byContradiction
          intro hh
          rw [List.drop_eq_nil_of_le (by omega)] at hdr
          cases hdr
        obtain ⟨t1, t2⟩ := jtake hdr hlt
        have hk2 := Nat.eq_of_beq_eq_true hc3
        exact jAt.call hmc hms hmet.1 (hK _ _ _ _ hlen h) (j_callI hC hfr hlo hc2 hne hk2 hq (Nat.eq_of_beq_eq_true hc1) (jvr_all k hc2 hk2) hdg t1 t2 hc.1 hmet)
  | invokestatic n =>
    rw [jq_invokestatic] at h
    obtain rfl := jlen3 hln
    cases hq : jlnk (jmt mi).1 n with
    | none => rw [hq] at h; cases h
    | some q =>
      obtain ⟨k, nest, pl⟩ := q
      rw [hq] at h
      dsimp only at h
      cases hk : k.beq 1001 with
      | true =>
        rw [hk, cond_true] at h
        have hk1 := Nat.eq_of_beq_eq_true hk
        subst hk1
        have hz := jp1_inv h; clear h; obtain ⟨cnt, r, rfl, h⟩ := hz
        have hz := jp1_inv h; clear h; obtain ⟨dp, r, rfl, h⟩ := hz
        have hz := jpr_inv h; clear h; obtain ⟨bb, r, rfl, h⟩ := hz
        have hz := jp1_inv h; clear h; obtain ⟨sp, r, rfl, h⟩ := hz
        have hz := jpr_inv h; clear h; obtain ⟨a, r, rfl, h⟩ := hz
        by_cases hkk : (jK S a = 14 ∧ jK S bb = 14 ∨ jK S a = 15 ∧ jK S bb = 15) ∧ a ≠ bb
        · rw [if_pos hkk] at h
          have hz := cond_inv h; clear h; obtain ⟨hc, h⟩ := hz
          rw [Bool.and_eq_true] at hc
          refine (hK _ _ _ (jcp S a sp.toNatClampNeg bb dp.toNatClampNeg cnt.toNatClampNeg) hlen h).heap rfl rfl fun H locs ls cells slots Q hw hls kk => ?_
          rcases hkk with ⟨hk1 | hk1, hab⟩
          · exact j_copy hC (by omega) (by omega) hls hq hw hk1 (Or.inl rfl) hab hc.1 (of_decide_eq_true hc.2) hdg kk
          · exact j_copy hC (by omega) (by omega) hls hq hw hk1 (Or.inr rfl) hab hc.1 (of_decide_eq_true hc.2) hdg kk
        · rw [if_neg hkk] at h
          have hz := ite_inv h; clear h; obtain ⟨hkk2, h⟩ := hz
          have hz := cond_inv h; clear h; obtain ⟨hc, h⟩ := hz
          rw [Bool.and_eq_true] at hc
          refine (hK _ _ _ (jcq S a sp.toNatClampNeg bb dp.toNatClampNeg cnt.toNatClampNeg) hlen h).heap rfl rfl fun H locs ls cells slots Q hw hls kk => ?_
          exact j_copyJ hC (by omega) (by omega) hls hq hw hkk2.1 rfl hkk2.2 hc.1 (of_decide_eq_true hc.2) hdg kk
      | false =>
        rw [hk, cond_false] at h
        cases hk2 : k.beq 1002 with
        | true =>
          rw [hk2, cond_true] at h
          have hk1 := Nat.eq_of_beq_eq_true hk2
          subst hk1
          have hz := jp1_inv h; clear h; obtain ⟨y, r, rfl, h⟩ := hz
          have hz := jp1_inv h; clear h; obtain ⟨x, r, rfl, h⟩ := hz
          have hz := cond_inv h; clear h; obtain ⟨hc, h⟩ := hz
          have hcat := of_decide_eq_true hc
          have hlw := (jlk_spec hown16 hq).2
          obtain ⟨-, -, -, -, hm1, hm2, hm3⟩ := jac_all
          obtain ⟨hx, hb, hr, hml, hown, hts, hlk', hini, hKn, hlo', hmi'⟩ := hC
          have hj := hK _ _ _ _ hlen h
          refine ⟨hj.1, fun H locs ls cells slots hw hl hS h1 h2 => ?_⟩
          have k9 := hj.2 H locs ls cells slots hw (lv_less hl jA_klp) hS h1 h2
          refine va_mmax hx hb (by rw [hml]; exact hl.1.symm) hown (hts _ (jgd_at hlw rfl)) (hts _ (jgd_at hm1 rfl)) (hts _ (jgd_at hm3 rfl)) (hts _ (jgd_at jmx_all rfl)) (by omega) ?_ (by omega) (by omega) hdg ?_
          · rw [jcatE]; omega
          · rw [← jmx_eq]; exact k9
        | false =>
          rw [hk2, cond_false] at h
          cases hk3 : k.beq 1003 with
          | true =>
            rw [hk3, cond_true] at h
            have hk1 := Nat.eq_of_beq_eq_true hk3
            subst hk1
            have hz := jp1_inv h; clear h; obtain ⟨y, r, rfl, h⟩ := hz
            have hz := jp1_inv h; clear h; obtain ⟨x, r, rfl, h⟩ := hz
            have hz := cond_inv h; clear h; obtain ⟨hc, h⟩ := hz
            have hcat := of_decide_eq_true hc
            have hlw := (jlk_spec hown16 hq).2
            obtain ⟨-, -, -, -, hm1, hm2, hm3⟩ := jac_all
            obtain ⟨hx, hb, hr, hml, hown, hts, hlk', hini, hKn, hlo', hmi'⟩ := hC
            have hj := hK _ _ _ _ hlen h
            refine ⟨hj.1, fun H locs ls cells slots hw hl hS h1 h2 => ?_⟩
            have k9 := hj.2 H locs ls cells slots hw (lv_less hl jA_klp) hS h1 h2
            refine va_mmin hx hb (by rw [hml]; exact hl.1.symm) hown (hts _ (jgd_at hlw rfl)) (hts _ (jgd_at hm2 rfl)) (hts _ (jgd_at hm3 rfl)) (hts _ (jgd_at jmm_all rfl)) (by omega) ?_ (by omega) (by omega) hdg ?_
            · rw [jcatE]; omega
            · rw [← jmm_eq]; exact k9
          | false =>
            rw [hk3, cond_false] at h
            have hz := cond_inv h; clear h; obtain ⟨hc, h⟩ := hz
            simp only [Bool.and_eq_true, decide_eq_true_eq] at hc
            obtain ⟨⟨⟨⟨hc1, hc2⟩, hc3⟩, hc4⟩, hc5⟩ := hc
            have hz := jret_inv h; clear h; obtain ⟨w, S1, hr, h⟩ := hz
            obtain ⟨d', rfl, hr⟩ := jcw_inv hr
            have hne : k ≠ jlaw := by
              rcases (jlk_spec hown16 hq).1 with h | h
              · exact h.2
              · omega
            have hmet := hM d' k _ S w S1 hc1 hne hc5 hr
            obtain ⟨t1, t2⟩ := jtake rfl hc3
            exact jAt.call hmc hms hmet.1 (hK _ _ _ _ hlen h) (j_callS hC hfr hlo hc1 hne (Nat.eq_of_beq_eq_true hc2) hq hdg t1 t2 hc4 hmet)
  | _ => exact hi.elim
end JT

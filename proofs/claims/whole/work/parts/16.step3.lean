/-! one step: fields -/
set_option maxRecDepth 100000
set_option maxHeartbeats 8000000
theorem jty_spec {ci k : Nat} (hc : ci < 13) (hk : k < jN ci) : parseFieldDescriptor (jT ci k).2.2.1 = some (jty ci k) ∧ (jT ci k).1 = jow ci ∧ (jtg ci k = 0 → jty ci k = .int) ∧ (jtg ci k = 1 → jty ci k = .long) ∧ (jtg ci k = 3 → jty ci k = .boolean) ∧ (jtg ci k ≠ 0 → jtg ci k ≠ 1 → jtg ci k ≠ 3 → (jty ci k).isReference = true) := by
  obtain ⟨h1, h2, h3⟩ := jty_all ci hc k hk
  refine ⟨h1, h2, fun h => ?_, fun h => ?_, fun h => ?_, fun ha hb hd => ?_⟩
  · unfold jty_ok at h3; rw [h] at h3; exact of_decide_eq_true h3
  · unfold jty_ok at h3; rw [h] at h3; exact of_decide_eq_true h3
  · unfold jty_ok at h3; rw [h] at h3; exact of_decide_eq_true h3
  · unfold jty_ok at h3
    split at h3
    · contradiction
    · contradiction
    · contradiction
    · exact h3
theorem jfd_spec {own n ci k nest pl : Nat} (ho : own < 16) (h : jfld own n = some (ci, k, nest, pl)) : ci < 13 ∧ k < jN ci ∧ jtp pl = some (jfw own (n, ci, k, nest, pl)) := by
  have := jfd_all own ho _ (jfind_mem h)
  exact ⟨this.1.1, this.1.2, this.2⟩
section JT
variable {b lo : Nat} {D : va_G} {cy : Nat → ClassId} {mi : Nat} {p : Program} {l : Launch} {e : Env} {R : Room} {s : State} {m : MethodId} {args : Array Value} {below : List Frame} {meth : Method} {c : Code} {mc ms : Nat} {out : Option Value × jS} {pc : Nat} {lv st : List Value} {S S' : jS}
variable {H : Heap} {locs : List Loc} {cells slots : Nat} {Q : State → Prop} {ls : Array Slot} {rest : List Value}
/-- reading a field -/
theorem j_get {n ci k nest pl a : Nat} (hC : jCx lo D cy mi p s m args meth c) (hf : jfld (jmt mi).1 n = some (ci, k, nest, pl)) (hw : jWd b lo D cy S s H) (hka : jK S a = ci + 1) (hdg : decode (jby mi) pc = .ok (.getfield n, 3))
    (kk : W p l e R s m args below meth c H locs cells slots Q (F0 m (pc + 3) ls (jFv (jρ b lo) S a (jtg ci k) k :: rest))) : W p l e R s m args below meth c H locs cells slots Q (F0 m pc ls (.ref (jρ b lo a) :: rest)) := by
  obtain ⟨hx, hb, hr, hml, hown, hts, hlk, hini, hKn, hlo', hmi⟩ := hC
  obtain ⟨hci, hk, hpl⟩ := jfd_spec (jow_ok_spec hmi).1 hf
  have ha0 := jnz hw hka hci
  have hone := hw.one ha0 (by rw [hka]; omega)
  rw [jE_obj hka hci] at hone
  obtain ⟨t1, t2, -⟩ := jty_spec hci hk
  unfold jfw at hpl
  dsimp only at hpl
  cases hn : nest.beq 0 with
  | true =>
    rw [hn] at hpl
    refine va_get (C := jow ci) (T := jT ci) (N := jN ci) hx hb hts (jws_in hci) hown hKn.1 hone 0 rfl (jcl_at hci) k hk (hts _ (jgd_at hpl rfl)) (fun x hx => by rw [t2] at hx; exact hx) (jFs_at hk) hdg kk
  | false =>
    rw [hn] at hpl
    refine va_getN (C := jow ci) (T := jT ci) (N := jN ci) hx hb hts (jws_in hci) hown hKn.1 hone 0 rfl (jcl_at hci) k hk (va_Nw.use rfl (hKn.2.2 _ (jnw_at hpl rfl))) (fun x hx => by rw [t2] at hx; exact hx) (jFs_at hk) hdg kk
/-- writing a field -/
theorem j_put {n ci k nest pl a : Nat} {v : Value} (hC : jCx lo D cy mi p s m args meth c) (hf : jfld (jmt mi).1 n = some (ci, k, nest, pl)) (hfin : ((jT ci k).2.2.2 && !(jini mi && (jmt mi).1.beq ci && nest.beq 0)) = false) (hw : jWd b lo D cy S s H) (hka : jK S a = ci + 1) (hnar : narrow (jty ci k) v = v) (hfit : fits (jty ci k) v = true)
    (hS1 : jC S' = jC S) (hS2 : jK S' = jK S) (hS3 : jLn S' = jLn S) (hI : ∀ c, c ≠ a → jI S' c = jI S c) (hJ : ∀ c, c ≠ a → jJ S' c = jJ S c) (hR : ∀ c, c ≠ a → jR S' c = jR S c) (hval : ∀ j, j < jN ci → jFv (jρ b lo) S' a (jtg ci j) j = if j = k then v else jFv (jρ b lo) S a (jtg ci j) j) (hdg : decode (jby mi) pc = .ok (.putfield n, 3))
    (kk : ∀ (H' : Heap) (locs' : List Loc), jWd b lo D cy S' s H' → (∀ q, q < lo → H'[q]? = H[q]?) → (∀ x ∈ locs', x ∈ locs ∨ lo ≤ x.base) → W p l e R s m args below meth c H' locs' cells slots Q (F0 m (pc + 3) ls rest)) : W p l e R s m args below meth c H locs cells slots Q (F0 m pc ls (v :: .ref (jρ b lo a) :: rest)) := by
  obtain ⟨hx, hb, hr, hml, hown, hts, hlk, hini, hKn, hlo', hmi⟩ := hC
  obtain ⟨hci, hk, hpl⟩ := jfd_spec (jow_ok_spec hmi).1 hf
  have ha0 := jnz hw hka hci
  have hat := (hw.2.2.2.2.1 a ha0 (by rw [hka]; omega)).2.2
  rw [jE_obj hka hci] at hat
  have hty : ∀ j, j < jN ci → parseFieldDescriptor (jT ci j).2.2.1 = some (jty ci j) := fun j hj => (jty_spec hci hj).1
  obtain ⟨t1, t2, -⟩ := jty_spec hci hk
  have hap := va_apart (own := jow ci) hts (jws_in hci) (jty ci) hty (jnm_all ci hci) hKn.1 (jcl_at hci)
  obtain ⟨r, h1, cell, q1, q2, q3, q4⟩ := hat
  have hr' : r = (jow ci, jT ci, jN ci) := Option.some.inj (h1.symm.trans (jcl_at hci))
  subst hr'
  obtain ⟨hSl, hfc, kC, hkC, hkind⟩ := hKn.1.1 ci _ (jcl_at hci)
  obtain ⟨cf, kf, fi, f, hfi, hsl⟩ := hSl k hk
  have hlays := u_lays hts (jws_in hci) hk
  have hst := (u_facts hfc hkC hlays hfi).1
  have hsame : s.fieldFound? (jow ci) (jT ci k).2.1 (jT ci k).2.2.1 = some (cf, kf, fi, f) := by rw [t2] at hfi; exact hfi
  have fin : ∀ H' : Heap, H'[jρ b lo a]? = some (cell.setSlot (D.2 ci k) v) → H'.size = H.size → (∀ q, q ≠ jρ b lo a → H'[q]? = H[q]?) → W p l e R s m args below meth c H' (locs ++ [⟨jρ b lo a, D.2 ci k⟩]) cells slots Q (F0 m (pc + 3) ls rest) := by
    intro H' e1 e2 e3
    refine kk H' _ (hw.upd ha0 (by rw [hka]; omega) e2 e3 hS1 hS2 hS3 hI hJ hR ?_ (fun h14 => by rw [hka] at h14; omega)) (fun q hq => e3 q (fun h => by rw [jρ_pos ha0] at h; omega)) (fun x hxl => ?_)
    · rw [jE_obj (by rw [hS2]; exact hka) hci]
      refine ⟨_, jcl_at hci, t_OB.to (V := updV (vp_V (jFs (jρ b lo) S a ci)) k v) ⟨_, e1, q2, q3, t_set q4 hap hk v⟩ (fun j hj => ?_)⟩
      rw [jFs_V hj, hval j hj]
      unfold updV
      by_cases hjk : j = k
      · rw [if_pos hjk, if_pos hjk]
      · rw [if_neg hjk, if_neg hjk, jFs_V hj]
    · rcases List.mem_append.mp hxl with h | h
      · exact Or.inl h
      · right
        rw [List.mem_singleton.mp h]
        show lo ≤ jρ b lo a
        rw [jρ_pos ha0]
        omega
  rw [← hsl] at fin
  have hlt : f.slot < cell.slots.size := by rw [hsl]; exact k2_hasslot (q4 k hk)
  have hlay := hts _ (jws_in hci _ (u_in_lay hk))
  unfold u_lay at hlay
  unfold jfw at hpl
  dsimp only at hpl
  cases hfn : (jT ci k).2.2.2 with
  | false =>
    rw [hfn] at hlay
    rw [if_neg (by decide)] at hlay
    have h6 := u_store hfc hkC hkind hlay hfi t1 hnar hfit
    cases hn : nest.beq 0 with
    | true =>
      rw [hn] at hpl
      exact W.putK hx hb (f := f) ⟨hown, hts _ (jgd_at hpl rfl), ⟨_, _, _, hsame⟩, hst⟩ (by rw [q2]; exact h6) q1 q3 hlt rfl rfl hdg fin
    | false =>
      rw [hn] at hpl
      exact va_WputK hx hb (f := f) hown (va_Nw.use rfl (hKn.2.2 _ (jnw_at hpl rfl))) hsame hst (by rw [q2]; exact h6) q1 q3 hlt rfl rfl hdg fin
  | true =>
    rw [hfn] at hfin
    simp only [Bool.true_and, Bool.not_eq_false', Bool.and_eq_true] at hfin
    obtain ⟨⟨f1, f2⟩, f3⟩ := hfin
    have hoc : (jmt mi).1 = ci := Nat.eq_of_beq_eq_true f2
    rw [f3] at hpl
    rw [hfn, if_pos rfl] at hlay
    have hcf : m.cls = cf := by
      obtain ⟨_, _, c', _, _, _, -, -, hf', -, -, -, hown2, -⟩ := Cond.laysFinal_spec hlay
      have e1 : c' = cf := by have := hfi.symm.trans hf'; simp at this; exact this.1.symm
      rw [t2] at hown2
      rw [← e1]
      rw [hoc] at hown
      exact Option.some.inj (hown.symm.trans hown2)
    have h6 := u_fits hfc hkC hkind (Or.inr hlay) hfi t1 hnar hfit
    exact W.putFinK hx hb hown (hts _ (jgd_at hpl rfl)) hsame hst hcf (hini f1) (by rw [q2]; exact h6) q1 q3 hlt rfl rfl hdg fin
theorem j_field {K : Nat → List Value → List Value → jS → jO} {kc : Nat → List Value → List Value → jO} {kr : Option Value → jS → jO} (hC : jCx lo D cy mi p s m args meth c) (hlen : lv.length = (jmt mi).2.1) (hK : jNext b lo D cy mi p l e R s m args below meth c mc ms out K) {i : Instr} {len : Nat} (hdg : decode (jby mi) pc = .ok (i, len)) (hln : jlen i len = true)
    (hi : match i with
      | .getfield _ => True | .putfield _ => True
      | _ => False)
    (h : jstep (jmt mi).1 (jini mi) (jmt mi).2.2.1 i pc lv st S none (fun pc' lv' st' S' => K pc' (jklp (jkl mi) pc' lv') st' S') kc kr = some out) : jAt b lo D cy mi p l e R s m args below meth c mc ms out pc lv st S := by
  cases i with
  | getfield n =>
    rw [jq_getfield] at h
    obtain rfl := jlen3 hln
    unfold jget at h
    cases hf : jfld (jmt mi).1 n with
    | none => rw [hf] at h; cases h
    | some q =>
      obtain ⟨ci, k, nest, pl⟩ := q
      rw [hf] at h
      dsimp only at h
      have hz := jpr_inv h; clear h; obtain ⟨a, r, rfl, h⟩ := hz
      have hz := ite_inv h; clear h; obtain ⟨hka, h⟩ := hz
      split at h
      · rename_i ht
        exact (hK _ _ _ _ hlen h).pure fun H locs ls cells slots Q hw hl kk => j_get hC hf hw hka hdg (by rw [ht]; exact kk)
      · rename_i ht
        exact (hK _ _ _ _ hlen h).pure fun H locs ls cells slots Q hw hl kk => j_get hC hf hw hka hdg (by rw [ht]; exact kk)
      · rename_i ht
        exact (hK _ _ _ _ hlen h).pure fun H locs ls cells slots Q hw hl kk => j_get hC hf hw hka hdg (by rw [ht]; exact kk)
      · rename_i h0 h1 h3
        have hv : jFv (jρ b lo) S a (jtg ci k) k = va_rf ((jR S a k).map (jρ b lo)) := by
          unfold jFv
          split <;> first | contradiction | rfl
        cases ho : jR S a k with
        | none =>
          rw [ho] at h
          exact (hK _ _ _ _ hlen h).pure fun H locs ls cells slots Q hw hl kk => j_get hC hf hw hka hdg (by rw [hv, ho]; exact kk)
        | some bb =>
          rw [ho] at h
          exact (hK _ _ _ _ hlen h).pure fun H locs ls cells slots Q hw hl kk => j_get hC hf hw hka hdg (by rw [hv, ho]; exact kk)
  | putfield n =>
    rw [jq_putfield] at h
    obtain rfl := jlen3 hln
    unfold jput at h
    cases hf : jfld (jmt mi).1 n with
    | none => rw [hf] at h; cases h
    | some q =>
      obtain ⟨ci, k, nest, pl⟩ := q
      rw [hf] at h
      dsimp only at h
      obtain ⟨hci, hk, -⟩ := jfd_spec (jow_ok_spec hC.2.2.2.2.2.2.2.2.2.2).1 hf
      obtain ⟨-, -, y0, y1, y3, yr⟩ := jty_spec hci hk
      cases hfin : ((jT ci k).2.2.2 && !(jini mi && (jmt mi).1.beq ci && nest.beq 0)) with
      | true => rw [hfin] at h; cases h
      | false =>
        rw [hfin, cond_false] at h
        split at h
        · rename_i ht
          have hz := jp1_inv h; clear h; obtain ⟨x, r, rfl, h⟩ := hz
          have hz := jpr_inv h; clear h; obtain ⟨a, r, rfl, h⟩ := hz
          have hz := ite_inv h; clear h; obtain ⟨hka, h⟩ := hz
          refine (hK _ _ _ (jsI S a k x) hlen h).heap rfl rfl fun H locs ls cells slots Q hw hls kk => j_put (S' := jsI S a k x) (v := .int x) hC hf hfin hw hka (by rw [y0 ht]; rfl) (by rw [y0 ht]; rfl) rfl rfl rfl (fun c hc => ju_n hc) (fun c hc => rfl) (fun c hc => rfl) (fun j hj => ?_) hdg kk
          by_cases hjk : j = k
          · subst hjk
            rw [if_pos rfl, ht]
            show Value.int (ju S.2.1 a j x a j) = _
            rw [ju_s, jup_s]
          · rw [if_neg hjk]
            unfold jFv
            split <;> first | rfl | (show Value.int (ju S.2.1 a k x a j) = _; rw [ju_s, jup_n hjk])
        · rename_i ht
          have hz := jq1_inv h; clear h; obtain ⟨x, r, rfl, h⟩ := hz
          have hz := jpr_inv h; clear h; obtain ⟨a, r, rfl, h⟩ := hz
          have hz := ite_inv h; clear h; obtain ⟨hka, h⟩ := hz
          refine (hK _ _ _ (jsJ S a k x) hlen h).heap rfl rfl fun H locs ls cells slots Q hw hls kk => j_put (S' := jsJ S a k x) (v := .long x) hC hf hfin hw hka (by rw [y1 ht]; rfl) (by rw [y1 ht]; rfl) rfl rfl rfl (fun c hc => rfl) (fun c hc => ju_n hc) (fun c hc => rfl) (fun j hj => ?_) hdg kk
          by_cases hjk : j = k
          · subst hjk
            rw [if_pos rfl, ht]
            show Value.long (ju S.2.2 a j x a j) = _
            rw [ju_s, jup_s]
          · rw [if_neg hjk]
            unfold jFv
            split <;> first | rfl | (show Value.long (ju S.2.2 a k x a j) = _; rw [ju_s, jup_n hjk])
        · rename_i ht
          have hz := jp1_inv h; clear h; obtain ⟨x, r, rfl, h⟩ := hz
          have hz := jpr_inv h; clear h; obtain ⟨a, r, rfl, h⟩ := hz
          have hz := ite_inv h; clear h; obtain ⟨hka, h⟩ := hz
          have hz := jif_inv h; clear h; obtain ⟨h01, h⟩ := hz
          refine (hK _ _ _ (jsI S a k x) hlen h).heap rfl rfl fun H locs ls cells slots Q hw hls kk => j_put (S' := jsI S a k x) (v := .int x) hC hf hfin hw hka (by rw [y3 ht]; rcases h01 with rfl | rfl <;> rfl) (by rw [y3 ht]; rcases h01 with rfl | rfl <;> rfl) rfl rfl rfl (fun c hc => ju_n hc) (fun c hc => rfl) (fun c hc => rfl) (fun j hj => ?_) hdg kk
          by_cases hjk : j = k
          · subst hjk
            rw [if_pos rfl, ht]
            show Value.int (ju S.2.1 a j x a j) = _
            rw [ju_s, jup_s]
          · rw [if_neg hjk]
            unfold jFv
            split <;> first | rfl | (show Value.int (ju S.2.1 a k x a j) = _; rw [ju_s, jup_n hjk])
        · rename_i h0 h1 h3
          have hrf := yr h0 h1 h3
          have hnr : narrow (jty ci k) .null = .null ∧ fits (jty ci k) .null = true := by
            cases hj : jty ci k <;> rw [hj] at hrf <;> first | (cases hrf; done) | exact ⟨rfl, rfl⟩
          have hnr2 : ∀ z : Nat, narrow (jty ci k) (.ref z) = .ref z ∧ fits (jty ci k) (.ref z) = true := by
            intro z
            cases hj : jty ci k <;> rw [hj] at hrf <;> first | (cases hrf; done) | exact ⟨rfl, rfl⟩
          have hvv : ∀ (o : Option Nat) (a : Nat) (j : Nat), j < jN ci → jFv (jρ b lo) (jsR S a k o) a (jtg ci j) j = if j = k then va_rf (o.map (jρ b lo)) else jFv (jρ b lo) S a (jtg ci j) j := by
            intro o a j hj
            by_cases hjk : j = k
            · subst hjk
              rw [if_pos rfl]
              unfold jFv
              split
              · contradiction
              · contradiction
              · contradiction
              · show va_rf ((ju S.1.2.2.1 a j o a j).map _) = _
                rw [ju_s, jup_s]
            · rw [if_neg hjk]
              unfold jFv
              split <;> first | rfl | (show va_rf ((ju S.1.2.2.1 a k o a j).map _) = _; rw [ju_s, jup_n hjk])
          have hz := jpo_inv h; clear h; rcases hz with ⟨r, rfl, h⟩ | ⟨bb, r, rfl, h⟩
          · have hz := jpr_inv h; clear h; obtain ⟨a, r, rfl, h⟩ := hz
            have hz := ite_inv h; clear h; obtain ⟨hka, h⟩ := hz
            exact (hK _ _ _ (jsR S a k none) hlen h).heap rfl rfl fun H locs ls cells slots Q hw hls kk => j_put (S' := jsR S a k none) (v := .null) hC hf hfin hw hka hnr.1 hnr.2 rfl rfl rfl (fun c hc => rfl) (fun c hc => rfl) (fun c hc => ju_n hc) (fun j hj => hvv none a j hj) hdg kk
          · have hz := jpr_inv h; clear h; obtain ⟨a, r, rfl, h⟩ := hz
            have hz := ite_inv h; clear h; obtain ⟨hka, h⟩ := hz
            exact (hK _ _ _ (jsR S a k (some bb)) hlen h).heap rfl rfl fun H locs ls cells slots Q hw hls kk => j_put (S' := jsR S a k (some bb)) (v := .ref (jρ b lo bb)) hC hf hfin hw hka (hnr2 _).1 (hnr2 _).2 rfl rfl rfl (fun c hc => rfl) (fun c hc => rfl) (fun c hc => ju_n hc) (fun j hj => hvv (some bb) a j hj) hdg kk
  | _ => exact hi.elim
end JT

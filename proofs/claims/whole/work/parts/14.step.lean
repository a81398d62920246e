/-! one step: plain instructions -/
set_option maxRecDepth 100000
set_option maxHeartbeats 8000000
theorem jlen1 {n : Nat} (h : n.beq 1 = true) : n = 1 := Nat.eq_of_beq_eq_true h
theorem jlen2 {n : Nat} (h : n.beq 2 = true) : n = 2 := Nat.eq_of_beq_eq_true h
theorem jlen3 {n : Nat} (h : n.beq 3 = true) : n = 3 := Nat.eq_of_beq_eq_true h
theorem jat_ok {mi pc len : Nat} {i : Instr} (hmi : mi < 282) (h : jat' mi pc = some (i, len)) : decode (jby mi) pc = .ok (i, len) ∧ jlen i len = true := by
  have h1 : jckA mi := ck_all mi (Nat.zero_le mi) hmi
  have h2 : (pc, i, len) ∈ (jmt mi).2.2.2.2.2 := by
    unfold jat' at h
    exact jfind_mem h
  exact h1 (pc, i, len) h2
section JT
variable {b lo : Nat} {D : va_G} {cy : Nat → ClassId} {mi : Nat} {p : Program} {l : Launch} {e : Env} {R : Room} {s : State} {m : MethodId} {args : Array Value} {below : List Frame} {meth : Method} {c : Code} {mc ms : Nat} {out : Option Value × jS} {pc : Nat} {lv st : List Value} {S : jS}
/-- what the mini machine's next place is worth -/
def jNext (b lo : Nat) (D : va_G) (cy : Nat → ClassId) (mi : Nat) (p : Program) (l : Launch) (e : Env) (R : Room) (s : State) (m : MethodId) (args : Array Value) (below : List Frame) (meth : Method) (c : Code) (mc ms : Nat) (out : Option Value × jS) (K : Nat → List Value → List Value → jS → jO) : Prop :=
  ∀ pc' lv' st' S', lv'.length = (jmt mi).2.1 → K pc' (jklp (jkl mi) pc' lv') st' S' = some out → jAt b lo D cy mi p l e R s m args below meth c mc ms out pc' (jklp (jkl mi) pc' lv') st' S'
theorem j_plain {K : Nat → List Value → List Value → jS → jO} {kc : Nat → List Value → List Value → jO} {kr : Option Value → jS → jO} (hC : jCx lo D cy mi p s m args meth c) (hlen : lv.length = (jmt mi).2.1) (hK : jNext b lo D cy mi p l e R s m args below meth c mc ms out K) {i : Instr} {len : Nat} (hdg : decode (jby mi) pc = .ok (i, len)) (hln : jlen i len = true)
    (hi : match i with
      | .aload_n _ => True | .aload _ => True | .iload_n _ => True | .iload _ => True | .lload_n _ => True | .lload _ => True | .istore_n _ => True | .istore _ => True | .lstore_n _ => True | .lstore _ => True | .astore_n _ => True | .astore _ => True | .iinc _ _ => True | .iconst _ => True | .bipush _ => True | .sipush _ => True | .lconst _ => True | .aconst_null => True
      | .iadd => True | .isub => True | .imul => True | .iand => True | .ior => True | .ishl => True | .ishr => True | .iushr => True | .idiv => True | .irem => True | .ladd => True | .lmul => True | .land => True | .lor => True | .lxor => True | .ldiv => True | .lrem => True | .lshl => True | .lushr => True | .lcmp => True | .i2l => True | .l2i => True | .i2b => True | .dup => True | .dup2 => True | .pop => True
      | _ => False)
    (h : jstep (jmt mi).1 (jini mi) (jmt mi).2.2.1 i pc lv st S none (fun pc' lv' st' S' => K pc' (jklp (jkl mi) pc' lv') st' S') kc kr = some out) : jAt b lo D cy mi p l e R s m args below meth c mc ms out pc lv st S := by
  obtain ⟨hx, hb, hr, hml, hown, hts, hlk, hini, hKn, hlo', hmi⟩ := hC
  cases i with
  | aload_n n =>
    rw [jq_aload_n] at h
    obtain rfl := jlen1 hln
    have hz := jldR h; clear h; rcases hz with ⟨h1, h2⟩ | ⟨x, h1, h2⟩
    · exact (hK _ _ _ _ hlen h2).pure fun H locs ls cells slots Q hw hl k => lv_aload_nN hx hb hdg rfl (jget' hl h1 (by decide)) k
    · exact (hK _ _ _ _ hlen h2).pure fun H locs ls cells slots Q hw hl k => lv_aload_n hx hb hdg rfl (jget' hl h1 (by simp [jjunk])) k
  | aload n =>
    rw [jq_aload] at h
    obtain rfl := jlen2 hln
    have hz := jldR h; clear h; rcases hz with ⟨h1, h2⟩ | ⟨x, h1, h2⟩
    · exact (hK _ _ _ _ hlen h2).pure fun H locs ls cells slots Q hw hl k => lv_aloadN hx hb hdg (jget' hl h1 (by decide)) k
    · exact (hK _ _ _ _ hlen h2).pure fun H locs ls cells slots Q hw hl k => lv_aload hx hb hdg (jget' hl h1 (by simp [jjunk])) k
  | iload_n n =>
    rw [jq_iload_n] at h
    obtain rfl := jlen1 hln
    have hz := jldI h; clear h; obtain ⟨x, h1, h2⟩ := hz
    exact (hK _ _ _ _ hlen h2).pure fun H locs ls cells slots Q hw hl k => lv_iload_n hx hb hdg rfl (jget' hl h1 (by simp [jjunk])) k
  | iload n =>
    rw [jq_iload] at h
    obtain rfl := jlen2 hln
    have hz := jldI h; clear h; obtain ⟨x, h1, h2⟩ := hz
    exact (hK _ _ _ _ hlen h2).pure fun H locs ls cells slots Q hw hl k => lv_iload hx hb hdg (jget' hl h1 (by simp [jjunk])) k
  | lload_n n =>
    rw [jq_lload_n] at h
    obtain rfl := jlen1 hln
    have hz := jldJ h; clear h; obtain ⟨x, h1, h2⟩ := hz
    exact (hK _ _ _ _ hlen h2).pure fun H locs ls cells slots Q hw hl k => lv_lload_n hx hb hdg rfl (jget' hl h1 (by simp [jjunk])) k
  | lload n =>
    rw [jq_lload] at h
    obtain rfl := jlen2 hln
    have hz := jldJ h; clear h; obtain ⟨x, h1, h2⟩ := hz
    exact (hK _ _ _ _ hlen h2).pure fun H locs ls cells slots Q hw hl k => lv_lload hx hb hdg (jget' hl h1 (by simp [jjunk])) k
  | istore_n n =>
    rw [jq_istore_n] at h
    obtain rfl := jlen1 hln
    have hz := jp1_inv h; clear h; obtain ⟨x, r, rfl, h⟩ := hz
    have hz := ite_inv h; clear h; obtain ⟨h1, h2⟩ := hz
    exact (hK _ _ _ _ (by rw [jst1_len]; exact hlen) h2).store fun H locs ls cells slots Q hl k => lv_istore_n hx hb hdg rfl hl (by omega) rfl (fun ls' hl' => k ls' (lv_less hl' jA_st1))
  | istore n =>
    rw [jq_istore] at h
    obtain rfl := jlen2 hln
    have hz := jp1_inv h; clear h; obtain ⟨x, r, rfl, h⟩ := hz
    have hz := ite_inv h; clear h; obtain ⟨h1, h2⟩ := hz
    exact (hK _ _ _ _ (by rw [jst1_len]; exact hlen) h2).store fun H locs ls cells slots Q hl k => lv_istore hx hb hdg hl (by omega) rfl (fun ls' hl' => k ls' (lv_less hl' jA_st1))
  | lstore_n n =>
    rw [jq_lstore_n] at h
    obtain rfl := jlen1 hln
    have hz := jq1_inv h; clear h; obtain ⟨x, r, rfl, h⟩ := hz
    have hz := ite_inv h; clear h; obtain ⟨h1, h2⟩ := hz
    exact (hK _ _ _ _ (by rw [jst2_len]; exact hlen) h2).store fun H locs ls cells slots Q hl k => lv_lstore_n hx hb hdg rfl hl (by omega) rfl (fun ls' hl' => k ls' (lv_less hl' jA_st2))
  | lstore n =>
    rw [jq_lstore] at h
    obtain rfl := jlen2 hln
    have hz := jq1_inv h; clear h; obtain ⟨x, r, rfl, h⟩ := hz
    have hz := ite_inv h; clear h; obtain ⟨h1, h2⟩ := hz
    exact (hK _ _ _ _ (by rw [jst2_len]; exact hlen) h2).store fun H locs ls cells slots Q hl k => lv_lstore hx hb hdg hl (by omega) rfl (fun ls' hl' => k ls' (lv_less hl' jA_st2))
  | astore_n n =>
    rw [jq_astore_n] at h
    obtain rfl := jlen1 hln
    have hz := jpo_inv h; clear h; rcases hz with ⟨r, rfl, h⟩ | ⟨x, r, rfl, h⟩
    · have hz := ite_inv h; clear h; obtain ⟨h1, h2⟩ := hz
      exact (hK _ _ _ _ (by rw [jst1_len]; exact hlen) h2).store fun H locs ls cells slots Q hl k => lv_astore_nN hx hb hdg rfl hl (by omega) rfl (fun ls' hl' => k ls' (lv_less hl' jA_st1))
    · have hz := ite_inv h; clear h; obtain ⟨h1, h2⟩ := hz
      exact (hK _ _ _ _ (by rw [jst1_len]; exact hlen) h2).store fun H locs ls cells slots Q hl k => lv_astore_n hx hb hdg rfl hl (by omega) rfl (fun ls' hl' => k ls' (lv_less hl' jA_st1))
  | astore n =>
    rw [jq_astore] at h
    obtain rfl := jlen2 hln
    have hz := jpo_inv h; clear h; rcases hz with ⟨r, rfl, h⟩ | ⟨x, r, rfl, h⟩
    · have hz := ite_inv h; clear h; obtain ⟨h1, h2⟩ := hz
      exact (hK _ _ _ _ (by rw [jst1_len]; exact hlen) h2).store fun H locs ls cells slots Q hl k => lv_astoreN hx hb hdg hl (by omega) rfl (fun ls' hl' => k ls' (lv_less hl' jA_st1))
    · have hz := ite_inv h; clear h; obtain ⟨h1, h2⟩ := hz
      exact (hK _ _ _ _ (by rw [jst1_len]; exact hlen) h2).store fun H locs ls cells slots Q hl k => lv_astore hx hb hdg hl (by omega) rfl (fun ls' hl' => k ls' (lv_less hl' jA_st1))
  | iinc n v =>
    rw [jq_iinc] at h
    obtain rfl := jlen3 hln
    have hz := jldI h; clear h; obtain ⟨x, h1, h⟩ := hz
    have hz := ite_inv h; clear h; obtain ⟨h3, h2⟩ := hz
    refine (hK _ _ _ _ (by rw [jst1_len]; exact hlen) h2).store fun H locs ls cells slots Q hl k => ?_
    have hm : (n, Value.int x) ∈ jA (jρ b lo) lv := by
      have h4 := jnth_in jjunk lv n (by rw [h1]; simp [jjunk])
      rw [h1] at h4
      exact jA_mem.mpr ⟨.int x, h4, by simp [jjunk], rfl⟩
    obtain ⟨j, hj⟩ := List.mem_iff_getElem?.mp hm
    exact lv_iinc hx hb hdg hl hj rfl (by omega) rfl (fun ls' hl' => k ls' (lv_less hl' jA_st1))
  | iconst v => rw [jq_iconst] at h; obtain rfl := jlen1 hln; exact (hK _ _ _ _ hlen h).pure fun H locs ls cells slots Q hw hl k => lv_iconst hx hb hdg rfl k
  | bipush v => rw [jq_bipush] at h; obtain rfl := jlen2 hln; exact (hK _ _ _ _ hlen h).pure fun H locs ls cells slots Q hw hl k => lv_bipush hx hb hdg rfl k
  | sipush v => rw [jq_sipush] at h; obtain rfl := jlen3 hln; exact (hK _ _ _ _ hlen h).pure fun H locs ls cells slots Q hw hl k => lv_sipush hx hb hdg rfl k
  | lconst v => rw [jq_lconst] at h; obtain rfl := jlen1 hln; exact (hK _ _ _ _ hlen h).pure fun H locs ls cells slots Q hw hl k => lv_lconst hx hb hdg rfl k
  | aconst_null => rw [jq_aconst_null] at h; obtain rfl := jlen1 hln; exact (hK _ _ _ _ hlen h).pure fun H locs ls cells slots Q hw hl k => lv_null hx hb hdg k
  | iadd => rw [jq_iadd] at h; obtain rfl := jlen1 hln; have hz := jp1_inv h; clear h; obtain ⟨y, r, rfl, h⟩ := hz; have hz := jp1_inv h; clear h; obtain ⟨x, r, rfl, h⟩ := hz; exact (hK _ _ _ _ hlen h).pure fun H locs ls cells slots Q hw hl k => lv_iadd hx hb hdg k
  | isub => rw [jq_isub] at h; obtain rfl := jlen1 hln; have hz := jp1_inv h; clear h; obtain ⟨y, r, rfl, h⟩ := hz; have hz := jp1_inv h; clear h; obtain ⟨x, r, rfl, h⟩ := hz; exact (hK _ _ _ _ hlen h).pure fun H locs ls cells slots Q hw hl k => lv_isub hx hb hdg k
  | imul => rw [jq_imul] at h; obtain rfl := jlen1 hln; have hz := jp1_inv h; clear h; obtain ⟨y, r, rfl, h⟩ := hz; have hz := jp1_inv h; clear h; obtain ⟨x, r, rfl, h⟩ := hz; exact (hK _ _ _ _ hlen h).pure fun H locs ls cells slots Q hw hl k => lv_imul hx hb hdg k
  | iand => rw [jq_iand] at h; obtain rfl := jlen1 hln; have hz := jp1_inv h; clear h; obtain ⟨y, r, rfl, h⟩ := hz; have hz := jp1_inv h; clear h; obtain ⟨x, r, rfl, h⟩ := hz; exact (hK _ _ _ _ hlen h).pure fun H locs ls cells slots Q hw hl k => lv_iand hx hb hdg k
  | ior => rw [jq_ior] at h; obtain rfl := jlen1 hln; have hz := jp1_inv h; clear h; obtain ⟨y, r, rfl, h⟩ := hz; have hz := jp1_inv h; clear h; obtain ⟨x, r, rfl, h⟩ := hz; exact (hK _ _ _ _ hlen h).pure fun H locs ls cells slots Q hw hl k => lv_ior hx hb hdg k
  | ishl => rw [jq_ishl] at h; obtain rfl := jlen1 hln; have hz := jp1_inv h; clear h; obtain ⟨y, r, rfl, h⟩ := hz; have hz := jp1_inv h; clear h; obtain ⟨x, r, rfl, h⟩ := hz; exact (hK _ _ _ _ hlen h).pure fun H locs ls cells slots Q hw hl k => lv_ishl hx hb hdg k
  | ishr => rw [jq_ishr] at h; obtain rfl := jlen1 hln; have hz := jp1_inv h; clear h; obtain ⟨y, r, rfl, h⟩ := hz; have hz := jp1_inv h; clear h; obtain ⟨x, r, rfl, h⟩ := hz; exact (hK _ _ _ _ hlen h).pure fun H locs ls cells slots Q hw hl k => lv_ishr hx hb hdg k
  | iushr => rw [jq_iushr] at h; obtain rfl := jlen1 hln; have hz := jp1_inv h; clear h; obtain ⟨y, r, rfl, h⟩ := hz; have hz := jp1_inv h; clear h; obtain ⟨x, r, rfl, h⟩ := hz; exact (hK _ _ _ _ hlen h).pure fun H locs ls cells slots Q hw hl k => lv_iushr hx hb hdg rfl k
  | idiv => rw [jq_idiv] at h; obtain rfl := jlen1 hln; have hz := jp1_inv h; clear h; obtain ⟨y, r, rfl, h⟩ := hz; have hz := jp1_inv h; clear h; obtain ⟨x, r, rfl, h⟩ := hz; have hz := jif_inv' h; clear h; obtain ⟨hne, h⟩ := hz; exact (hK _ _ _ _ hlen h).pure fun H locs ls cells slots Q hw hl k => lv_idiv hx hb hdg hne k
  | irem => rw [jq_irem] at h; obtain rfl := jlen1 hln; have hz := jp1_inv h; clear h; obtain ⟨y, r, rfl, h⟩ := hz; have hz := jp1_inv h; clear h; obtain ⟨x, r, rfl, h⟩ := hz; have hz := jif_inv' h; clear h; obtain ⟨hne, h⟩ := hz; exact (hK _ _ _ _ hlen h).pure fun H locs ls cells slots Q hw hl k => lv_irem hx hb hdg hne k
  | ladd => rw [jq_ladd] at h; obtain rfl := jlen1 hln; have hz := jq1_inv h; clear h; obtain ⟨y, r, rfl, h⟩ := hz; have hz := jq1_inv h; clear h; obtain ⟨x, r, rfl, h⟩ := hz; exact (hK _ _ _ _ hlen h).pure fun H locs ls cells slots Q hw hl k => lv_ladd hx hb hdg k
  | lmul => rw [jq_lmul] at h; obtain rfl := jlen1 hln; have hz := jq1_inv h; clear h; obtain ⟨y, r, rfl, h⟩ := hz; have hz := jq1_inv h; clear h; obtain ⟨x, r, rfl, h⟩ := hz; exact (hK _ _ _ _ hlen h).pure fun H locs ls cells slots Q hw hl k => lv_lmul hx hb hdg k
  | land => rw [jq_land] at h; obtain rfl := jlen1 hln; have hz := jq1_inv h; clear h; obtain ⟨y, r, rfl, h⟩ := hz; have hz := jq1_inv h; clear h; obtain ⟨x, r, rfl, h⟩ := hz; exact (hK _ _ _ _ hlen h).pure fun H locs ls cells slots Q hw hl k => lv_land hx hb hdg k
  | lor => rw [jq_lor] at h; obtain rfl := jlen1 hln; have hz := jq1_inv h; clear h; obtain ⟨y, r, rfl, h⟩ := hz; have hz := jq1_inv h; clear h; obtain ⟨x, r, rfl, h⟩ := hz; exact (hK _ _ _ _ hlen h).pure fun H locs ls cells slots Q hw hl k => lv_lor hx hb hdg k
  | lxor => rw [jq_lxor] at h; obtain rfl := jlen1 hln; have hz := jq1_inv h; clear h; obtain ⟨y, r, rfl, h⟩ := hz; have hz := jq1_inv h; clear h; obtain ⟨x, r, rfl, h⟩ := hz; exact (hK _ _ _ _ hlen h).pure fun H locs ls cells slots Q hw hl k => lv_lxor hx hb hdg k
  | ldiv => rw [jq_ldiv] at h; obtain rfl := jlen1 hln; have hz := jq1_inv h; clear h; obtain ⟨y, r, rfl, h⟩ := hz; have hz := jq1_inv h; clear h; obtain ⟨x, r, rfl, h⟩ := hz; have hz := jif_inv' h; clear h; obtain ⟨hne, h⟩ := hz; exact (hK _ _ _ _ hlen h).pure fun H locs ls cells slots Q hw hl k => lv_ldiv hx hb hdg hne k
  | lrem => rw [jq_lrem] at h; obtain rfl := jlen1 hln; have hz := jq1_inv h; clear h; obtain ⟨y, r, rfl, h⟩ := hz; have hz := jq1_inv h; clear h; obtain ⟨x, r, rfl, h⟩ := hz; have hz := jif_inv' h; clear h; obtain ⟨hne, h⟩ := hz; exact (hK _ _ _ _ hlen h).pure fun H locs ls cells slots Q hw hl k => lv_lrem hx hb hdg hne k
  | lshl => rw [jq_lshl] at h; obtain rfl := jlen1 hln; have hz := jp1_inv h; clear h; obtain ⟨y, r, rfl, h⟩ := hz; have hz := jq1_inv h; clear h; obtain ⟨x, r, rfl, h⟩ := hz; exact (hK _ _ _ _ hlen h).pure fun H locs ls cells slots Q hw hl k => lv_lshl hx hb hdg rfl k
  | lushr => rw [jq_lushr] at h; obtain rfl := jlen1 hln; have hz := jp1_inv h; clear h; obtain ⟨y, r, rfl, h⟩ := hz; have hz := jq1_inv h; clear h; obtain ⟨x, r, rfl, h⟩ := hz; exact (hK _ _ _ _ hlen h).pure fun H locs ls cells slots Q hw hl k => lv_lushr hx hb hdg rfl k
  | lcmp => rw [jq_lcmp] at h; obtain rfl := jlen1 hln; have hz := jq1_inv h; clear h; obtain ⟨y, r, rfl, h⟩ := hz; have hz := jq1_inv h; clear h; obtain ⟨x, r, rfl, h⟩ := hz; exact (hK _ _ _ _ hlen h).pure fun H locs ls cells slots Q hw hl k => W.lcmp hx hb hdg k
  | i2l => rw [jq_i2l] at h; obtain rfl := jlen1 hln; have hz := jp1_inv h; clear h; obtain ⟨x, r, rfl, h⟩ := hz; exact (hK _ _ _ _ hlen h).pure fun H locs ls cells slots Q hw hl k => lv_i2l hx hb hdg rfl k
  | l2i => rw [jq_l2i] at h; obtain rfl := jlen1 hln; have hz := jq1_inv h; clear h; obtain ⟨x, r, rfl, h⟩ := hz; exact (hK _ _ _ _ hlen h).pure fun H locs ls cells slots Q hw hl k => lv_l2i hx hb hdg rfl k
  | i2b => rw [jq_i2b] at h; obtain rfl := jlen1 hln; have hz := jp1_inv h; clear h; obtain ⟨x, r, rfl, h⟩ := hz; exact (hK _ _ _ _ hlen h).pure fun H locs ls cells slots Q hw hl k => lv_i2b hx hb hdg rfl k
  | dup => rw [jq_dup] at h; obtain rfl := jlen1 hln; have hz := jpv_inv h; clear h; obtain ⟨v, r, rfl, h1, h⟩ := hz; exact (hK _ _ _ _ hlen h).pure fun H locs ls cells slots Q hw hl k => lv_dup hx hb hdg (by rw [jrv_cat]; exact h1) k
  | dup2 => rw [jq_dup2] at h; obtain rfl := jlen1 hln; have hz := jpv_inv h; clear h; obtain ⟨v, r, rfl, h1, h⟩ := hz; have hz := jpv_inv h; clear h; obtain ⟨w, r, rfl, h2, h⟩ := hz; exact (hK _ _ _ _ hlen h).pure fun H locs ls cells slots Q hw hl k => lv_dup2_11 hx hb hdg (by rw [jrv_cat]; exact h1) (by rw [jrv_cat]; exact h2) k
  | pop => rw [jq_pop] at h; obtain rfl := jlen1 hln; have hz := jpv_inv h; clear h; obtain ⟨v, r, rfl, h1, h⟩ := hz; exact (hK _ _ _ _ hlen h).pure fun H locs ls cells slots Q hw hl k => lv_pop hx hb hdg (by rw [jrv_cat]; exact h1) k
  | _ => exact hi.elim
end JT

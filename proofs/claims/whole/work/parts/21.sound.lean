/-! the mini machine is right -/
set_option maxRecDepth 100000
set_option maxHeartbeats 8000000
section JI
variable {α : Type} {P : α → Prop} {bad : α}
theorem jp1_ind {st : List Value} {k : Int32 → List Value → α} (hb : P bad) (hk : ∀ x r, P (k x r)) : P (jp1 st bad k) := by unfold jp1; split; exact hk _ _; exact hb
theorem jq1_ind {st : List Value} {k : Int64 → List Value → α} (hb : P bad) (hk : ∀ x r, P (k x r)) : P (jq1 st bad k) := by unfold jq1; split; exact hk _ _; exact hb
theorem jpr_ind {st : List Value} {k : Nat → List Value → α} (hb : P bad) (hk : ∀ x r, P (k x r)) : P (jpr st bad k) := by unfold jpr; split; exact hk _ _; exact hb
theorem jpv_ind {st : List Value} {k : Value → List Value → α} (hb : P bad) (hk : ∀ x r, P (k x r)) : P (jpv st bad k) := by unfold jpv; split <;> first | exact hk _ _ | exact hb
theorem jp0_ind {st : List Value} {k : α} (hb : P bad) (hk : P k) : P (jp0 st bad k) := by unfold jp0; split; exact hk; exact hb
theorem jpo_ind {st : List Value} {kn : List Value → α} {k : Nat → List Value → α} (hb : P bad) (hn : ∀ r, P (kn r)) (hk : ∀ x r, P (k x r)) : P (jpo st bad kn k) := by unfold jpo; split; exact hn _; exact hk _ _; exact hb
theorem jo_ind {o : Option Nat} {kn : α} {k : Nat → α} (hn : P kn) (hk : ∀ x, P (k x)) : P (jo o kn k) := by unfold jo; split; exact hn; exact hk _
theorem jld_ind {lv : List Value} {i : Nat} {kI : Int32 → α} {kJ : Int64 → α} {kN : α} {kR : Nat → α} (hb : P bad) (h1 : ∀ x, P (kI x)) (h2 : ∀ x, P (kJ x)) (h3 : P kN) (h4 : ∀ x, P (kR x)) : P (jld lv i bad kI kJ kN kR) := by unfold jld; split; exact h1 _; exact h2 _; exact h3; exact h4 _; exact hb
theorem jcond_ind {c : Bool} {a b : α} (h1 : P a) (h2 : P b) : P (cond c a b) := by cases c; exact h2; exact h1
theorem jif_ind {c : Prop} {a b : α} (h1 : P a) (h2 : P b) : P (jif c a b) := jcond_ind h1 h2
theorem jite_ind {c : Prop} {h : Decidable c} {a b : α} (h1 : P a) (h2 : P b) : P (@ite _ c h a b) := by split; exact h1; exact h2
theorem jmp_ind {pc : Nat} {off : Int} {k : Nat → α} (hb : P bad) (hk : ∀ t, P (k t)) : P (jmp pc off bad k) := jcond_ind (hk _) hb
theorem jtab_ind {x : Int32} {kd : α} {k : Int → α} (hd : P kd) (hk : ∀ o, P (k o)) : ∀ (offs : List Int) (lo : Int), P (jtab x lo offs kd k)
  | [], _ => hd
  | _ :: r, lo => by unfold jtab; exact jif_ind (hk _) (jtab_ind hd hk r (lo + 1))
theorem jlok_ind {x : Int32} {kd : α} {k : Int → α} (hd : P kd) (hk : ∀ o, P (k o)) : ∀ ps : List (Int × Int), P (jlok x ps kd k)
  | [] => hd
  | _ :: r => by unfold jlok; exact jif_ind (hk _) (jlok_ind hd hk r)
theorem jget_ind {own n : Nat} {S : jS} {st : List Value} {k : Value → List Value → α} (hb : P bad) (hk : ∀ v r, P (k v r)) : P (jget own n S st bad k) := by
  unfold jget
  split
  · exact hb
  · refine jpr_ind hb fun a r => jite_ind ?_ hb
    split <;> first | exact hk _ _ | exact jo_ind (hk _ _) (fun _ => hk _ _)
theorem jput_ind {own n : Nat} {ini : Bool} {S : jS} {st : List Value} {k : jS → List Value → α} (hb : P bad) (hk : ∀ S' r, jC S ≤ jC S' ∧ jQ S ≤ jQ S' → P (k S' r)) : P (jput own n ini S st bad k) := by
  unfold jput
  split
  · exact hb
  · refine jcond_ind hb ?_
    split
    · exact jp1_ind hb fun x r => jpr_ind hb fun a r => jite_ind (hk _ _ ⟨Nat.le_refl _, Nat.le_refl _⟩) hb
    · exact jq1_ind hb fun x r => jpr_ind hb fun a r => jite_ind (hk _ _ ⟨Nat.le_refl _, Nat.le_refl _⟩) hb
    · exact jp1_ind hb fun x r => jpr_ind hb fun a r => jite_ind (jif_ind (hk _ _ ⟨Nat.le_refl _, Nat.le_refl _⟩) hb) hb
    · exact jpo_ind hb (fun r => jpr_ind hb fun a r => jite_ind (hk _ _ ⟨Nat.le_refl _, Nat.le_refl _⟩) hb) (fun x r => jpr_ind hb fun a r => jite_ind (hk _ _ ⟨Nat.le_refl _, Nat.le_refl _⟩) hb)
theorem jal_le {S : jS} {kd ln n : Nat} : jC S ≤ jC (jal S kd ln n) ∧ jQ S ≤ jQ (jal S kd ln n) := ⟨Nat.le_succ _, Nat.le_add_right _ _⟩
theorem jstep_ind {own : Nat} {ini : Bool} {rt : Nat} {i : Instr} {pc : Nat} {lv st : List Value} {S : jS} {kn : Nat → List Value → List Value → jS → α} {kc : Nat → List Value → List Value → α} {kr : Option Value → jS → α} (hb : P bad) (hn : ∀ pc' lv' st' S', jC S ≤ jC S' ∧ jQ S ≤ jQ S' → P (kn pc' lv' st' S')) (hc : ∀ a b c, P (kc a b c)) (hr : ∀ v, P (kr v S)) : P (jstep own ini rt i pc lv st S bad kn kc kr) := by
  have h0 : ∀ pc' lv' st', P (kn pc' lv' st' S) := fun _ _ _ => hn _ _ _ _ ⟨Nat.le_refl _, Nat.le_refl _⟩
  unfold jstep
  split <;> repeat' first
    | exact hb
    | exact h0 _ _ _
    | exact hc _ _ _
    | exact hr _
    | exact hn _ _ _ _ ⟨Nat.le_refl _, Nat.le_refl _⟩
    | exact hn _ _ _ _ jal_le
    | exact jget_ind hb fun _ _ => h0 _ _ _
    | exact jput_ind hb fun _ _ h => hn _ _ _ _ h
    | exact jtab_ind (jmp_ind hb fun _ => h0 _ _ _) (fun _ => jmp_ind hb fun _ => h0 _ _ _) _ _
    | exact jlok_ind (jmp_ind hb fun _ => h0 _ _ _) (fun _ => jmp_ind hb fun _ => h0 _ _ _) _
    | refine jld_ind hb (fun _ => ?_) (fun _ => ?_) ?_ (fun _ => ?_)
    | refine jp1_ind hb (fun _ _ => ?_)
    | refine jq1_ind hb (fun _ _ => ?_)
    | refine jpr_ind hb (fun _ _ => ?_)
    | refine jpv_ind hb (fun _ _ => ?_)
    | refine jpo_ind hb (fun _ => ?_) (fun _ _ => ?_)
    | refine jp0_ind hb ?_
    | refine jo_ind ?_ (fun _ => ?_)
    | refine jmp_ind hb (fun _ => ?_)
    | refine jif_ind ?_ ?_
    | refine jcond_ind ?_ ?_
    | refine jite_ind ?_ ?_
    | split
end JI
theorem jrun_le (n : Nat) : ∀ (d mi pc : Nat) (lv st : List Value) (S : jS) (out : Option Value × jS), jrun n d mi pc lv st S = some out → jC S ≤ jC out.2 ∧ jQ S ≤ jQ out.2 := by
  induction n with
  | zero => intro d mi pc lv st S out h; rw [jrun.eq_def] at h; cases h
  | succ n ih =>
    intro d mi pc lv st S out h
    rw [jrun_succ] at h
    unfold jnx at h
    cases hq : jat' mi pc with
    | none => rw [hq] at h; cases h
    | some q =>
      rw [hq] at h
      dsimp only at h
      revert h
      refine jstep_ind (P := fun o : jO => o = some out → jC S ≤ jC out.2 ∧ jQ S ≤ jQ out.2) (fun h => by cases h) (fun pc' lv' st' S' hS h => ?_) (fun a b c h => ?_) (fun v h => by cases h; exact ⟨Nat.le_refl _, Nat.le_refl _⟩)
      · have := ih _ _ _ _ _ _ _ h
        exact ⟨Nat.le_trans hS.1 this.1, Nat.le_trans hS.2 this.2⟩
      · obtain ⟨w, S1, hr, h⟩ := jret_inv h
        obtain ⟨d', rfl, hr⟩ := jcw_inv hr
        have h1 := ih _ _ _ _ _ _ _ hr
        have h2 := ih _ _ _ _ _ _ _ h
        exact ⟨Nat.le_trans h1.1 h2.1, Nat.le_trans h1.2 h2.2⟩
theorem jexp_len (ρ : Nat → Nat) : ∀ as : List Value, (lg_sl (as.map (jrv ρ))).length = (jexp as).length
  | [] => rfl
  | v :: r => by
    have ih := jexp_len ρ r
    have e : ∀ w : Value, lg_sl (w :: r.map (jrv ρ)) = (if w.category = 2 then [.val w, .second] else [.val w]) ++ lg_sl (r.map (jrv ρ)) := fun w => by simp [lg_sl]
    rw [List.map_cons, e]
    cases v <;> simp [jrv, Value.category, jexp, ih] <;> omega
theorem jexp_args (ρ : Nat → Nat) : ∀ (as : List Value) (o i : Nat) (v : Value), (jexp as)[i]? = some v → v ≠ jjunk → (o + i, jrv ρ v) ∈ lv_args o (as.map (jrv ρ))
  | [], _, _, _, h, _ => by simp [jexp] at h
  | w :: r, o, i, v, h, hv => by
    have one : ∀ (hw : w.category ≠ 2) (he : jexp (w :: r) = w :: jexp r), (o + i, jrv ρ v) ∈ lv_args o ((w :: r).map (jrv ρ)) := by
      intro hw he
      rw [he] at h
      rw [List.map_cons, lv_args, jrv_cat, if_neg hw]
      cases i with
      | zero =>
        have : w = v := by simpa using h
        subst this
        exact List.mem_cons_self
      | succ i =>
        have := jexp_args ρ r (o + 1) i v (by simpa using h) hv
        rw [show o + (i + 1) = o + 1 + i by omega]
        exact List.mem_cons_of_mem _ this
    have two : ∀ (hw : w.category = 2) (he : jexp (w :: r) = w :: jjunk :: jexp r), (o + i, jrv ρ v) ∈ lv_args o ((w :: r).map (jrv ρ)) := by
      intro hw he
      rw [he] at h
      rw [List.map_cons, lv_args, jrv_cat, if_pos hw]
      match i, h with
      | 0, h =>
        have : w = v := by simpa using h
        subst this
        exact List.mem_cons_self
      | 1, h =>
        have : jjunk = v := by simpa using h
        exact absurd this.symm hv
      | i + 2, h =>
        have := jexp_args ρ r (o + 2) i v (by simpa using h) hv
        rw [show o + (i + 2) = o + 2 + i by omega]
        exact List.mem_cons_of_mem _ this
    cases w with
    | long x => exact two rfl rfl
    | double x => exact two rfl rfl
    | int x => exact one (by simp [Value.category]) rfl
    | float x => exact one (by simp [Value.category]) rfl
    | null => exact one (by simp [Value.category]) rfl
    | ref x => exact one (by simp [Value.category]) rfl
    | retAddr x => exact one (by simp [Value.category]) rfl
theorem jent_len {n : Nat} {as : List Value} (h : (jexp as).length ≤ n) : (jent n as).length = n := by
  unfold jent
  rw [List.length_append, List.length_replicate]
  omega
theorem jent_args {ρ : Nat → Nat} {n : Nat} {as : List Value} : ∀ q ∈ jA ρ (jent n as), q ∈ lv_args 0 (as.map (jrv ρ)) := by
  intro q hq
  obtain ⟨v, h1, h2, h3⟩ := jA_mem.mp hq
  unfold jent at h1
  by_cases hl : q.1 < (jexp as).length
  · rw [List.getElem?_append_left hl] at h1
    have := jexp_args ρ as 0 q.1 v h1 h2
    rw [Nat.zero_add, ← h3] at this
    exact this
  · rw [List.getElem?_append_right (by omega)] at h1
    have := List.mem_of_getElem? h1
    exact absurd (List.eq_of_mem_replicate this) h2
/-- at a place of a method: what the mini machine comes to is right -/
def jSnd (b lo : Nat) (D : va_G) (cy : Nat → ClassId) (l : Launch) (n : Nat) : Prop := ∀ (d mi pc : Nat) (lv st : List Value) (S : jS) (out : Option Value × jS), jrun n d mi pc lv st S = some out → ∀ (p : Program) (e : Env) (R : Room) (s : State) (m : MethodId) (args : Array Value) (below : List Frame) (meth : Method) (c : Code) (mc ms : Nat),
  jCx lo D cy mi p s m args meth c → mc ≤ R.cells → ms ≤ R.slots → d + 1 ≤ R.frames → 48 * (d + 1) ≤ R.locals → lv.length = (jmt mi).2.1 → jAt b lo D cy mi p l e R s m args below meth c mc ms out pc lv st S
theorem j_mets {b lo : Nat} {D : va_G} {cy : Nat → ClassId} {l : Launch} {n : Nat} (ih : jSnd b lo D cy l n) : jMets b lo D cy l (jrun n) := by
  intro d k as S v S1 hk hl hlen h
  have hle := jrun_le n _ _ _ _ _ _ _ h
  refine ⟨hle, ?_⟩
  obtain ⟨o1, o2, o3, o4, o5, o6, o7⟩ := jow_ok_spec hk
  refine Met.ofW (cc := jby k) (maxL := (jmt k).2.1) (ret := jrt k) o7 rfl ?_
  intro p e s m args below meth c s₁ B hml hP
  obtain ⟨rfl, hw, hKn⟩ := hP
  have hts := atoms_spec (ws := jws k) B.pre
  have hown : s.vm.findClass (jmn k).cls = some m.cls := findClass_of_methodNamed B.named
  have hC : jCx lo D cy k p s m (as.map (jrv (jρ b lo))).toArray meth c := ⟨B.exec, B.bytes, B.returns, hml, by rw [← o3]; exact hown, fun w hw => hts w (List.mem_cons_of_mem _ hw), B.notSynchronized, fun hi => by rw [← jin_all k hk (Nat.eq_of_beq_eq_true hi)]; exact (name_of_methodNamed B.named B.method).1, hKn, by rw [hw.2.1]; omega, hk⟩
  have hat := ih d k 0 (jent (jmt k).2.1 as) [] S (v, S1) h p e (jrmR d (jC S1 - jC S) (jQ S1 - jQ S)) s m (as.map (jrv (jρ b lo))).toArray below meth c (jC S1 - jC S) (jQ S1 - jQ S) hC (Nat.le_refl _) (Nat.le_refl _) (Nat.le_refl _) (Nat.le_refl _) (jent_len hlen)
  have hl1 := lv_entry (as.map (jrv (jρ b lo))) (n := (jmt k).2.1) (by rw [jexp_len]; exact hlen)
  rw [lg_entry_eq]
  exact hat.2 s.heap [] _ 0 0 hw (lv_less hl1 jent_args) va_S.rf (Nat.zero_add _) (Nat.zero_add _)
theorem j_sound {b lo : Nat} {D : va_G} {cy : Nat → ClassId} {l : Launch} (hblo : b < lo) (n : Nat) : jSnd b lo D cy l n := by
  induction n with
  | zero => intro d mi pc lv st S out h; rw [jrun.eq_def] at h; cases h
  | succ n ih =>
    intro d mi pc lv st S out h p e R s m args below meth c mc ms hC hmc hms hfr hlo hlen
    have hmi := hC.2.2.2.2.2.2.2.2.2.2
    rw [jrun_succ] at h
    unfold jnx at h
    cases hq : jat' mi pc with
    | none => rw [hq] at h; cases h
    | some q =>
      obtain ⟨i, len⟩ := q
      rw [hq] at h
      dsimp only at h
      obtain ⟨hdg, hln⟩ := jat_ok hmi hq
      have hK : jNext b lo D cy mi p l e R s m args below meth c mc ms out (jrun n d mi) := fun pc' lv' st' S' hl hh => ih d mi pc' _ st' S' out hh p e R s m args below meth c mc ms hC hmc hms hfr hlo (by rw [jklp_len]; exact hl)
      have hM := j_mets ih
      cases i <;> first
        | exact j_plain hC hlen hK hdg hln trivial h
        | exact j_jump hC hblo hlen hK hdg hln trivial h
        | exact j_field hC hlen hK hdg hln trivial h
        | exact j_rows hC hlen hK hdg hln trivial h
        | exact j_new hC hmc hms hlen hK hdg hln trivial h
        | exact j_ends hC hdg hln trivial h
        | exact j_calls hC hmc hms hfr hlo hlen hK hM hdg hln trivial h
        | (exact absurd (show (none : jO) = some out from h) (by simp))

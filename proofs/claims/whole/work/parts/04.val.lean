/-! WHAT A RUN COMES TO: jval, the limit of jrun; its step equation; several steps at once -/
abbrev jOc : Type := (Nat × List Value × List Value × jS) ⊕ ((Nat × List Value × List Value) ⊕ (Option Value × jS))
noncomputable def jstO (own : Nat) (ini : Bool) (rt : Nat) (i : Instr) (pc : Nat) (lv st : List Value) (S : jS) : Option jOc := jstep own ini rt i pc lv st S none (fun a b c d => some (.inl (a, b, c, d))) (fun a b c => some (.inr (.inl (a, b, c)))) (fun v s => some (.inr (.inr (v, s))))
def jel' {α : Type} (o : Option jOc) (bad : α) (kn : Nat → List Value → List Value → jS → α) (kc : Nat → List Value → List Value → α) (kr : Option Value → jS → α) : α := match o with
  | none => bad
  | some (.inl (a, b, c, d)) => kn a b c d
  | some (.inr (.inl (a, b, c))) => kc a b c
  | some (.inr (.inr (v, s))) => kr v s
theorem jp1_el {α β : Type} (F : β → α) (st : List Value) (bad : β) (k : Int32 → List Value → β) : F (jp1 st bad k) = jp1 st (F bad) (fun x r => F (k x r)) := by
  unfold jp1; split <;> rfl
theorem jq1_el {α β : Type} (F : β → α) (st : List Value) (bad : β) (k : Int64 → List Value → β) : F (jq1 st bad k) = jq1 st (F bad) (fun x r => F (k x r)) := by
  unfold jq1; split <;> rfl
theorem jpr_el {α β : Type} (F : β → α) (st : List Value) (bad : β) (k : Nat → List Value → β) : F (jpr st bad k) = jpr st (F bad) (fun x r => F (k x r)) := by
  unfold jpr; split <;> rfl
theorem jpo_el {α β : Type} (F : β → α) (st : List Value) (bad : β) (kn : List Value → β) (k : Nat → List Value → β) : F (jpo st bad kn k) = jpo st (F bad) (fun r => F (kn r)) (fun x r => F (k x r)) := by
  unfold jpo; split <;> rfl
theorem jo_el {α β : Type} (F : β → α) (o : Option Nat) (kn : β) (k : Nat → β) : F (jo o kn k) = jo o (F kn) (fun x => F (k x)) := by
  unfold jo; split <;> rfl
theorem jpv_el {α β : Type} (F : β → α) (st : List Value) (bad : β) (k : Value → List Value → β) : F (jpv st bad k) = jpv st (F bad) (fun x r => F (k x r)) := by
  unfold jpv; split <;> rfl
theorem jp0_el {α β : Type} (F : β → α) (st : List Value) (bad k : β) : F (jp0 st bad k) = jp0 st (F bad) (F k) := by
  unfold jp0; split <;> rfl
theorem jld_el {α β : Type} (F : β → α) (lv : List Value) (i : Nat) (bad : β) (kI : Int32 → β) (kJ : Int64 → β) (kN : β) (kR : Nat → β) : F (jld lv i bad kI kJ kN kR) = jld lv i (F bad) (fun x => F (kI x)) (fun x => F (kJ x)) (F kN) (fun x => F (kR x)) := by
  unfold jld; split <;> rfl
theorem ite_el {α β : Type} (F : β → α) (c : Prop) (h : Decidable c) (a b : β) : F (@ite _ c h a b) = @ite _ c h (F a) (F b) := by
  split <;> rfl
theorem cond_el {α β : Type} (F : β → α) (c : Bool) (a b : β) : F (cond c a b) = cond c (F a) (F b) := by
  cases c <;> rfl
theorem jif_el {α β : Type} (F : β → α) (c : Prop) (a b : β) : F (jif c a b) = jif c (F a) (F b) := cond_el F _ a b
theorem jif_t {α : Type} {c : Prop} {a b : α} (h : c) : jif c a b = a := by
  unfold jif jb
  rw [@decide_eq_true c (Classical.propDecidable c) h]
  rfl
theorem jif_f {α : Type} {c : Prop} {a b : α} (h : ¬ c) : jif c a b = b := by
  unfold jif jb
  rw [@decide_eq_false c (Classical.propDecidable c) h]
  rfl
theorem jb_t {c : Prop} : jb c = true ↔ c := by
  unfold jb
  exact @decide_eq_true_iff c (Classical.propDecidable c)
theorem jin_t {i : Int32} {n : Nat} : jin i n = true ↔ 0 ≤ i ∧ i.toNatClampNeg < n := jb_t
theorem jtab_el {α β : Type} (F : β → α) (x : Int32) (offs : List Int) (kd : β) (k : Int → β) : ∀ lo : Int, F (jtab x lo offs kd k) = jtab x lo offs (F kd) (fun o => F (k o)) := by
  induction offs with
  | nil => intro lo; rfl
  | cons o r ih => intro lo; unfold jtab; rw [jif_el F, ih]
theorem jlok_el {α β : Type} (F : β → α) (x : Int32) (ps : List (Int × Int)) (kd : β) (k : Int → β) : F (jlok x ps kd k) = jlok x ps (F kd) (fun o => F (k o)) := by
  induction ps with
  | nil => rfl
  | cons o r ih => unfold jlok; rw [jif_el F, ih]
theorem jmp_el {α β : Type} (F : β → α) (pc : Nat) (off : Int) (bad : β) (k : Nat → β) : F (jmp pc off bad k) = jmp pc off (F bad) (fun t => F (k t)) := by
  unfold jmp; rw [cond_el F]
theorem jget_el {α β : Type} (F : β → α) (own n : Nat) (S : jS) (st : List Value) (bad : β) (k : Value → List Value → β) : F (jget own n S st bad k) = jget own n S st (F bad) (fun v r => F (k v r)) := by
  unfold jget
  split
  · rfl
  · rw [jpr_el F]
    congr 1
    funext a r
    rw [ite_el F]
    congr 1
    split <;> first | rfl | exact jo_el F _ _ _
theorem jput_el {α β : Type} (F : β → α) (own n : Nat) (ini : Bool) (S : jS) (st : List Value) (bad : β) (k : jS → List Value → β) : F (jput own n ini S st bad k) = jput own n ini S st (F bad) (fun v r => F (k v r)) := by
  unfold jput
  split
  · rfl
  · rw [cond_el F]
    congr 1
    split
    · simp only [jp1_el F, jpr_el F, ite_el F]
    · simp only [jq1_el F, jpr_el F, ite_el F]
    · simp only [jp1_el F, jpr_el F, ite_el F, jif_el F]
    · simp only [jpo_el F, jpr_el F, ite_el F]
set_option maxHeartbeats 4000000 in
theorem jstep_el {α β : Type} (F : β → α) (own : Nat) (ini : Bool) (rt : Nat) (i : Instr) (pc : Nat) (lv st : List Value) (S : jS) (bad : β) (kn : Nat → List Value → List Value → jS → β) (kc : Nat → List Value → List Value → β) (kr : Option Value → jS → β) :
    F (jstep own ini rt i pc lv st S bad kn kc kr) = jstep own ini rt i pc lv st S (F bad) (fun a b c d => F (kn a b c d)) (fun a b c => F (kc a b c)) (fun v s => F (kr v s)) := by
  unfold jstep
  split <;> first
    | rfl
    | (simp only [jp1_el F, jq1_el F, jpr_el F, jpo_el F, jo_el F, jpv_el F, jp0_el F, jld_el F, jtab_el F, jlok_el F, ite_el F, jif_el F, cond_el F, jmp_el F, jget_el F, jput_el F]; done)
    | (split <;> first | rfl | (simp only [jp1_el F, jq1_el F, jpr_el F, jpo_el F, jo_el F, jpv_el F, jp0_el F, jld_el F, jtab_el F, jlok_el F, ite_el F, jif_el F, cond_el F, jmp_el F]; done))
    | (simp only [jp1_el F, jq1_el F, jpo_el F, jp0_el F]; (repeat' split) <;> first | rfl | simp only [jif_el F])
theorem jstep_fac {α : Type} (own : Nat) (ini : Bool) (rt : Nat) (i : Instr) (pc : Nat) (lv st : List Value) (S : jS) (bad : α) (kn : Nat → List Value → List Value → jS → α) (kc : Nat → List Value → List Value → α) (kr : Option Value → jS → α) :
    jstep own ini rt i pc lv st S bad kn kc kr = jel' (jstO own ini rt i pc lv st S) bad kn kc kr := by
  have h := jstep_el (fun o : Option jOc => jel' o bad kn kc kr) own ini rt i pc lv st S none (fun a b c d => some (.inl (a, b, c, d))) (fun a b c => some (.inr (.inl (a, b, c)))) (fun v s => some (.inr (.inr (v, s))))
  exact h.symm
theorem jel_n {α : Type} (a : Nat) (b c : List Value) (d : jS) (bad : α) (kn : Nat → List Value → List Value → jS → α) (kc : Nat → List Value → List Value → α) (kr : Option Value → jS → α) : jel' (some (.inl (a, b, c, d))) bad kn kc kr = kn a b c d := rfl
theorem jel_c {α : Type} (a : Nat) (b c : List Value) (bad : α) (kn : Nat → List Value → List Value → jS → α) (kc : Nat → List Value → List Value → α) (kr : Option Value → jS → α) : jel' (some (.inr (.inl (a, b, c)))) bad kn kc kr = kc a b c := rfl
theorem jel_r {α : Type} (v : Option Value) (d : jS) (bad : α) (kn : Nat → List Value → List Value → jS → α) (kc : Nat → List Value → List Value → α) (kr : Option Value → jS → α) : jel' (some (.inr (.inr (v, d)))) bad kn kc kr = kr v d := rfl
/-- a call, by what runs are worth -/
def jcw (V : Nat → Nat → Nat → List Value → List Value → jS → jO) (d m : Nat) (args : List Value) (S : jS) : jO := match d with
  | 0 => none
  | d' + 1 => V d' m 0 (jent (jmt m).2.1 args) [] S
/-- a step's words, for a method, with what comes behind a call -/
noncomputable def jnx (d mi pc : Nat) (lv st : List Value) (S : jS) (V : Nat → Nat → Nat → List Value → List Value → jS → jO) (K : Nat → List Value → List Value → jS → jO) : jO := match jat' mi pc with
  | none => none
  | some (i, _) => jstep (jmt mi).1 (jini mi) (jmt mi).2.2.1 i pc lv st S none (fun pc' lv' st' S' => K pc' (jklp (jkl mi) pc' lv') st' S')
      (fun m args rest => jret (jmt m).2.2.1 (jcw V d m args S) (fun vs S' => K (pc + 3) (jklp (jkl mi) (pc + 3) lv) (vs ++ rest) S'))
      (fun v S' => some (v, S'))
theorem jret_none {α : Type} (rt : Nat) (k : List Value → jS → Option α) : jret rt none k = none := by
  unfold jret; split <;> rfl
theorem jrun_succ (n d mi pc : Nat) (lv st : List Value) (S : jS) : jrun (n + 1) d mi pc lv st S = jnx d mi pc lv st S (jrun n) (jrun n d mi) := by
  rw [jrun.eq_def]
  unfold jnx
  dsimp only
  cases jat' mi pc with
  | none => rfl
  | some q =>
    dsimp only
    congr 1
    funext m args rest
    cases d with
    | zero => exact (jret_none _ _).symm
    | succ d => rfl
theorem jret_mono {α : Type} {rt : Nat} {r r' : jO} {k k' : List Value → jS → Option α} {v : α} (hr : ∀ x, r = some x → r' = some x) (hk : ∀ vs S, k vs S = some v → k' vs S = some v) (h : jret rt r k = some v) : jret rt r' k' = some v := by
  cases r with
  | none => rw [jret_none] at h; cases h
  | some x =>
    rw [hr x rfl]
    obtain ⟨o, S⟩ := x
    unfold jret at h ⊢
    split at h <;> first
      | (cases h; done)
      | (simp only [jcV, jcI, jcJ, jcR] at h ⊢; split at h <;> first | (cases h; done) | (rename_i heq; cases heq; exact hk _ _ h))
theorem jnx_mono {d mi pc : Nat} {lv st : List Value} {S : jS} {V V' : Nat → Nat → Nat → List Value → List Value → jS → jO} {K K' : Nat → List Value → List Value → jS → jO} {v : Option Value × jS}
    (hV : ∀ d' m pc lv st S x, V d' m pc lv st S = some x → V' d' m pc lv st S = some x) (hK : ∀ pc lv st S, K pc lv st S = some v → K' pc lv st S = some v) (h : jnx d mi pc lv st S V K = some v) : jnx d mi pc lv st S V' K' = some v := by
  unfold jnx at h ⊢
  cases hq : jat' mi pc with
  | none => rw [hq] at h; cases h
  | some q =>
    rw [hq] at h
    dsimp only at h ⊢
    rw [jstep_fac] at h ⊢
    cases ho : jstO (jmt mi).1 (jini mi) (jmt mi).2.2.1 q.1 pc lv st S with
    | none => rw [ho] at h; cases h
    | some o =>
      rw [ho] at h
      rcases o with ⟨a, b, c, s⟩ | ⟨a, b, c⟩ | ⟨a, s⟩
      · exact hK _ _ _ _ h
      · rw [jel_c] at h ⊢
        refine jret_mono (fun x hx => ?_) (fun vs S hh => hK _ _ _ _ hh) h
        cases d with
        | zero => cases hx
        | succ d => exact hV _ _ _ _ _ _ _ hx
      · exact h
theorem jrun_mono1 (n : Nat) : ∀ (d mi pc : Nat) (lv st : List Value) (S : jS) (v : Option Value × jS), jrun n d mi pc lv st S = some v → jrun (n + 1) d mi pc lv st S = some v := by
  induction n with
  | zero => intro d mi pc lv st S v h; rw [jrun.eq_def] at h; cases h
  | succ n ih =>
    intro d mi pc lv st S v h
    rw [jrun_succ] at h ⊢
    exact jnx_mono (fun d' m pc lv st S x => ih d' m pc lv st S x) (fun pc lv st S => ih d mi pc lv st S v) h
theorem jrun_mono {n n' : Nat} (hn : n ≤ n') {d mi pc : Nat} {lv st : List Value} {S : jS} {v : Option Value × jS} (h : jrun n d mi pc lv st S = some v) : jrun n' d mi pc lv st S = some v := by
  induction hn with
  | refl => exact h
  | step _ ih => exact jrun_mono1 _ _ _ _ _ _ _ _ ih
noncomputable def jval (d mi pc : Nat) (lv st : List Value) (S : jS) : jO := @dite _ (∃ v : Option Value × jS, ∃ n, jrun n d mi pc lv st S = some v) (Classical.propDecidable _) (fun h => some h.choose) (fun _ => none)
theorem jval_iff {d mi pc : Nat} {lv st : List Value} {S : jS} {v : Option Value × jS} : jval d mi pc lv st S = some v ↔ ∃ n, jrun n d mi pc lv st S = some v := by
  unfold jval
  split
  · rename_i h
    obtain ⟨n, hn⟩ := h.choose_spec
    constructor
    · intro e
      cases e
      exact ⟨n, hn⟩
    · intro ⟨k, hk⟩
      have h1 := jrun_mono (Nat.le_max_left n k) hn
      have h2 := jrun_mono (Nat.le_max_right n k) hk
      exact h1.symm.trans h2
  · rename_i h
    constructor
    · intro e; cases e
    · intro ⟨k, hk⟩
      exact absurd ⟨v, k, hk⟩ h
theorem jopt_ext {α : Type} {a b : Option α} (h : ∀ v, a = some v ↔ b = some v) : a = b := by
  cases a with
  | none =>
    cases b with
    | none => rfl
    | some w => exact absurd ((h w).mpr rfl) (by simp)
  | some w => exact ((h w).mp rfl).symm
/-- what a call comes to -/
noncomputable abbrev jcall (d m : Nat) (args : List Value) (S : jS) : jO := jcw jval d m args S
theorem jnx_lim {d mi pc : Nat} {lv st : List Value} {S : jS} {v : Option Value × jS} : jnx d mi pc lv st S jval (jval d mi) = some v ↔ ∃ n, jnx d mi pc lv st S (jrun n) (jrun n d mi) = some v := by
  constructor
  · intro h
    unfold jnx at h ⊢
    cases hq : jat' mi pc with
    | none => rw [hq] at h; cases h
    | some q =>
      rw [hq] at h
      dsimp only at h ⊢
      simp only [jstep_fac] at h ⊢
      cases ho : jstO (jmt mi).1 (jini mi) (jmt mi).2.2.1 q.1 pc lv st S with
      | none => rw [ho] at h; cases h
      | some o =>
        rw [ho] at h
        rcases o with ⟨a, b, c, s⟩ | ⟨a, b, c⟩ | ⟨a, s⟩
        · exact jval_iff.mp h
        · have key : ∀ (r : jO) (f : Nat → jO), (∀ x, r = some x → ∃ n, ∀ m, n ≤ m → f m = some x) → jret (jmt a).2.2.1 r (fun vs S' => jval d mi (pc + 3) (jklp (jkl mi) (pc + 3) lv) (vs ++ c) S') = some v → ∃ n, jret (jmt a).2.2.1 (f n) (fun vs S' => jrun n d mi (pc + 3) (jklp (jkl mi) (pc + 3) lv) (vs ++ c) S') = some v := by
            intro r f hf hh
            cases r with
            | none => rw [jret_none] at hh; cases hh
            | some x =>
              obtain ⟨n1, h1⟩ := hf x rfl
              have : ∃ n2, ∀ m, n2 ≤ m → jret (jmt a).2.2.1 (some x) (fun vs S' => jrun m d mi (pc + 3) (jklp (jkl mi) (pc + 3) lv) (vs ++ c) S') = some v := by
                obtain ⟨o, S2⟩ := x
                unfold jret at hh ⊢
                split at hh <;> first
                  | (cases hh; done)
                  | (simp only [jcV, jcI, jcJ, jcR] at hh ⊢; split at hh <;> first | (cases hh; done) | (rename_i heq; cases heq; obtain ⟨n2, h2⟩ := jval_iff.mp hh; exact ⟨n2, fun m hm => jrun_mono hm h2⟩))
              obtain ⟨n2, h2⟩ := this
              refine ⟨max n1 n2, ?_⟩
              rw [h1 _ (Nat.le_max_left n1 n2)]
              exact h2 _ (Nat.le_max_right n1 n2)
          simp only [jel_c] at h ⊢
          refine key _ (fun n => jcw (jrun n) d a b S) (fun x hx => ?_) h
          cases d with
          | zero => cases hx
          | succ d =>
            obtain ⟨n, hn⟩ := jval_iff.mp hx
            exact ⟨n, fun m hm => jrun_mono hm hn⟩
        · exact ⟨0, h⟩
  · intro ⟨n, h⟩
    exact jnx_mono (fun d' m pc lv st S x hx => jval_iff.mpr ⟨n, hx⟩) (fun pc lv st S hx => jval_iff.mpr ⟨n, hx⟩) h
theorem jval_step (d mi pc : Nat) (lv st : List Value) (S : jS) : jval d mi pc lv st S = jnx d mi pc lv st S jval (jval d mi) := by
  refine jopt_ext fun v => ?_
  rw [jnx_lim, jval_iff]
  constructor
  · intro ⟨n, h⟩
    exact ⟨n, by rw [← jrun_succ]; exact jrun_mono1 _ _ _ _ _ _ _ _ h⟩
  · intro ⟨n, h⟩
    exact ⟨n + 1, by rw [jrun_succ]; exact h⟩
/-- several steps, up to the places that are named -/
noncomputable def jx (own : Nat) (ini : Bool) (rt : Nat) (cd : List (Nat × Instr × Nat)) (kl : List (Nat × List Nat)) (stops : List Nat) (d mi : Nat) : Nat → Nat → List Value → List Value → jS → jO
  | 0, pc, lv, st, S => jval d mi pc lv st S
  | k + 1, pc, lv, st, S => bif stops.any (fun q => q.beq pc) then jval d mi pc lv st S else match jfind cd pc with
    | none => none
    | some (i, _) => jstep own ini rt i pc lv st S none (fun pc' lv' st' S' => jx own ini rt cd kl stops d mi k pc' (jklp kl pc' lv') st' S')
      (fun m args rest => jret (jmt m).2.2.1 (jcall d m args S) (fun vs S' => jx own ini rt cd kl stops d mi k (pc + 3) (jklp kl (pc + 3) lv) (vs ++ rest) S'))
      (fun v S' => some (v, S'))
theorem jret_congr {α : Type} {rt : Nat} {r : jO} {k k' : List Value → jS → Option α} (h : ∀ vs S, k vs S = k' vs S) : jret rt r k = jret rt r k' := by
  rw [show k = k' from funext fun vs => funext fun S => h vs S]
theorem jx_eq {mi : Nat} (stops : List Nat) (d : Nat) : ∀ (k pc : Nat) (lv st : List Value) (S : jS), jx (jmt mi).1 (jini mi) (jmt mi).2.2.1 (jmt mi).2.2.2.2.2 (jkl mi) stops d mi k pc lv st S = jval d mi pc lv st S := by
  intro k
  induction k with
  | zero => intro pc lv st S; rfl
  | succ k ih =>
    intro pc lv st S
    rw [jx]
    cases stops.any (fun q => q.beq pc) with
    | true => rfl
    | false =>
      dsimp only [cond_false]
      rw [jval_step]
      unfold jnx jat'
      cases jfind (jmt mi).2.2.2.2.2 pc with
      | none => rfl
      | some q =>
        dsimp only
        rw [jstep_fac, jstep_fac]
        cases jstO (jmt mi).1 (jini mi) (jmt mi).2.2.1 q.1 pc lv st S with
        | none => rfl
        | some o =>
          rcases o with ⟨a, b, c, s⟩ | ⟨a, b, c⟩ | ⟨a, s⟩
          · exact ih a _ c s
          · rw [jel_c, jel_c]
            exact jret_congr (fun vs S' => ih _ _ _ _)
          · rfl
/-- one step for sure, then several -/
theorem jgo {mi own rt : Nat} {ini : Bool} {cd : List (Nat × Instr × Nat)} {kl : List (Nat × List Nat)} (stops : List Nat) (k d pc : Nat) (lv st : List Value) (S : jS) (h1 : (jmt mi).1 = own) (h2 : jini mi = ini) (h3 : (jmt mi).2.2.1 = rt) (h4 : (jmt mi).2.2.2.2.2 = cd) (h5 : jkl mi = kl) :
    jval d mi pc lv st S = match jfind cd pc with
    | none => none
    | some (i, _) => jstep own ini rt i pc lv st S none (fun pc' lv' st' S' => jx own ini rt cd kl stops d mi k pc' (jklp kl pc' lv') st' S')
      (fun m args rest => jret (jmt m).2.2.1 (jcall d m args S) (fun vs S' => jx own ini rt cd kl stops d mi k (pc + 3) (jklp kl (pc + 3) lv) (vs ++ rest) S'))
      (fun v S' => some (v, S')) := by
  subst h1; subst h2; subst h3; subst h4; subst h5
  have h := (jx_eq (mi := mi) [] d 1 pc lv st S).symm
  rw [h, jx]
  simp only [List.any_nil, cond_false]
  cases jfind (jmt mi).2.2.2.2.2 pc with
  | none => rfl
  | some q =>
    dsimp only
    rw [jstep_fac, jstep_fac]
    cases jstO (jmt mi).1 (jini mi) (jmt mi).2.2.1 q.1 pc lv st S with
    | none => rfl
    | some o =>
      rcases o with ⟨a, b, c, s⟩ | ⟨a, b, c⟩ | ⟨a, s⟩
      · exact (jx_eq _ _ _ _ _ _ _).trans (jx_eq _ _ _ _ _ _ _).symm
      · rw [jel_c, jel_c]
        exact jret_congr (fun vs S' => (jx_eq _ _ _ _ _ _ _).trans (jx_eq _ _ _ _ _ _ _).symm)
      · rfl

/-! THE MINI MACHINE DOES NOT SEE ADDRESSES: a run over a heap with its cells named anew (p, back by r; from 171 on as they were) -/
set_option maxRecDepth 100000
set_option maxHeartbeats 8000000
def pP (p r : Nat → Nat) (S : jS) : jS := ((fun a => S.1.1 (r a), fun a => S.1.2.1 (r a), fun a k => (S.1.2.2.1 (r a) k).map p, S.1.2.2.2), fun a => S.2.1 (r a), fun a => S.2.2 (r a))
def pL (p : Nat → Nat) (l : List Value) : List Value := l.map (jrv p)
section PP
variable {p r : Nat → Nat} {α : Type}
theorem pp_0 : pL p [] = [] := rfl
theorem pp_c (v : Value) (l : List Value) : pL p (v :: l) = jrv p v :: pL p l := rfl
theorem pp_i (x : Int32) (l : List Value) : pL p (.int x :: l) = .int x :: pL p l := rfl
theorem pp_l (x : Int64) (l : List Value) : pL p (.long x :: l) = .long x :: pL p l := rfl
theorem pp_r (a : Nat) (l : List Value) : pL p (.ref a :: l) = .ref (p a) :: pL p l := rfl
theorem pp_n (l : List Value) : pL p (.null :: l) = .null :: pL p l := rfl
theorem pp_len (l : List Value) : (pL p l).length = l.length := List.length_map _
theorem pp_drop (l : List Value) (n : Nat) : (pL p l).drop n = pL p (l.drop n) := (List.map_drop ..).symm
theorem pp_take (l : List Value) (n : Nat) : (pL p l).take n = pL p (l.take n) := (List.map_take ..).symm
theorem pp_rev (l : List Value) : (pL p l).reverse = pL p l.reverse := (List.map_reverse ..).symm
theorem pp_app (l m : List Value) : pL p l ++ pL p m = pL p (l ++ m) := (List.map_append ..).symm
theorem pp_cat (l : List Value) : jcat (pL p l) = jcat l := jcatE l p
theorem pp_exp : ∀ l : List Value, jexp (pL p l) = pL p (jexp l)
  | [] => rfl
  | v :: l => by
    have ih := pp_exp l
    cases v <;> simp only [pp_c, jrv, jexp, ih] <;> rfl
theorem pp_er (a : Nat) (l : List Value) : (jexp (.ref (p a) :: pL p l)).length = (jexp (.ref a :: l)).length := by
  show (jexp (pL p (.ref a :: l))).length = _
  rw [pp_exp]
  exact List.length_map _
theorem pp_rep (n : Nat) : pL p (List.replicate n jjunk) = List.replicate n jjunk := by
  unfold pL
  rw [List.map_replicate]
  rfl
theorem pp_ent (n : Nat) (as : List Value) : jent n (pL p as) = pL p (jent n as) := by
  unfold jent
  rw [pp_exp, pp_len, ← pp_app, pp_rep]
theorem pp_set (l : List Value) (n : Nat) (v : Value) : (pL p l).set n (jrv p v) = pL p (l.set n v) := List.map_set.symm
theorem pp_nth : ∀ (l : List Value) (n : Nat), jnth (pL p l) n jjunk = jrv p (jnth l n jjunk)
  | [], _ => rfl
  | _ :: _, 0 => rfl
  | _ :: l, n + 1 => pp_nth l n
theorem pp_clr (l : List Value) (i : Nat) : jclr (pL p l) i = pL p (jclr l i) := by
  cases i with
  | zero => rfl
  | succ k =>
    unfold jclr
    dsimp only
    rw [pp_nth]
    cases jnth l k jjunk <;> first | rfl | exact pp_set l k jjunk
theorem pp_st1 (l : List Value) (i : Nat) (v : Value) : jst1 (pL p l) i (jrv p v) = pL p (jst1 l i v) := by
  unfold jst1
  rw [pp_clr, pp_set]
theorem pp_st1i (l : List Value) (i : Nat) (x : Int32) : jst1 (pL p l) i (.int x) = pL p (jst1 l i (.int x)) := pp_st1 l i (.int x)
theorem pp_st1n (l : List Value) (i : Nat) : jst1 (pL p l) i .null = pL p (jst1 l i .null) := pp_st1 l i .null
theorem pp_st1r (l : List Value) (i a : Nat) : jst1 (pL p l) i (.ref (p a)) = pL p (jst1 l i (.ref a)) := pp_st1 l i (.ref a)
theorem pp_st2 (l : List Value) (i : Nat) (x : Int64) : jst2 (pL p l) i (.long x) = pL p (jst2 l i (.long x)) := by
  unfold jst2
  rw [pp_clr, show Value.long x = jrv p (.long x) from rfl, pp_set, show jjunk = jrv p jjunk from rfl, pp_set]
  rfl
theorem pp_kill : ∀ (ks : List Nat) (l : List Value), jkill ks (pL p l) = pL p (jkill ks l)
  | [], _ => rfl
  | k :: ks, l => by
    show jkill ks ((pL p l).set k jjunk) = pL p (jkill ks (l.set k jjunk))
    rw [show (pL p l).set k jjunk = pL p (l.set k jjunk) from pp_set l k jjunk]
    exact pp_kill ks _
theorem pp_klp (kl : List (Nat × List Nat)) (pc : Nat) (l : List Value) : jklp kl pc (pL p l) = pL p (jklp kl pc l) := by
  unfold jklp
  split
  · rfl
  · exact pp_kill _ _
-- what is read from the stack
theorem pp_jp1 (st : List Value) (bad : α) (k : Int32 → List Value → α) : jp1 (pL p st) bad k = jp1 st bad (fun x l => k x (pL p l)) := by
  cases st with
  | nil => rfl
  | cons v l => cases v <;> rfl
theorem pp_jq1 (st : List Value) (bad : α) (k : Int64 → List Value → α) : jq1 (pL p st) bad k = jq1 st bad (fun x l => k x (pL p l)) := by
  cases st with
  | nil => rfl
  | cons v l => cases v <;> rfl
theorem pp_jpr (st : List Value) (bad : α) (k : Nat → List Value → α) : jpr (pL p st) bad k = jpr st bad (fun x l => k (p x) (pL p l)) := by
  cases st with
  | nil => rfl
  | cons v l => cases v <;> rfl
theorem pp_jpo (st : List Value) (bad : α) (kn : List Value → α) (k : Nat → List Value → α) : jpo (pL p st) bad kn k = jpo st bad (fun l => kn (pL p l)) (fun x l => k (p x) (pL p l)) := by
  cases st with
  | nil => rfl
  | cons v l => cases v <;> rfl
theorem pp_jpv (st : List Value) (bad : α) (k : Value → List Value → α) : jpv (pL p st) bad k = jpv st bad (fun x l => k (jrv p x) (pL p l)) := by
  cases st with
  | nil => rfl
  | cons v l => cases v <;> rfl
theorem pp_jp0 (st : List Value) (bad k : α) : jp0 (pL p st) bad k = jp0 st bad k := by
  cases st <;> rfl
theorem pp_jo (o : Option Nat) (kn : α) (k : Nat → α) : jo (o.map p) kn k = jo o kn (fun a => k (p a)) := by
  cases o <;> rfl
theorem pp_jld (lv : List Value) (i : Nat) (bad : α) (kI : Int32 → α) (kJ : Int64 → α) (kN : α) (kR : Nat → α) : jld (pL p lv) i bad kI kJ kN kR = jld lv i bad kI kJ kN (fun a => kR (p a)) := by
  unfold jld
  rw [pp_nth]
  cases jnth lv i jjunk <;> rfl
-- the heap
section HH
theorem pp_K (h1 : ∀ a, r (p a) = a) (S : jS) (a : Nat) : jK (pP p r S) (p a) = jK S a := by show S.1.1 (r (p a)) = _; rw [h1]
theorem pp_Ln (h1 : ∀ a, r (p a) = a) (S : jS) (a : Nat) : jLn (pP p r S) (p a) = jLn S a := by show S.1.2.1 (r (p a)) = _; rw [h1]
theorem pp_I (h1 : ∀ a, r (p a) = a) (S : jS) (a k : Nat) : jI (pP p r S) (p a) k = jI S a k := by show S.2.1 (r (p a)) k = _; rw [h1]
theorem pp_J (h1 : ∀ a, r (p a) = a) (S : jS) (a k : Nat) : jJ (pP p r S) (p a) k = jJ S a k := by show S.2.2 (r (p a)) k = _; rw [h1]
theorem pp_R (h1 : ∀ a, r (p a) = a) (S : jS) (a k : Nat) : jR (pP p r S) (p a) k = (jR S a k).map p := by show (S.1.2.2.1 (r (p a)) k).map p = _; rw [h1]
theorem pp_eq (h1 : ∀ a, r (p a) = a) (a b : Nat) : (p a = p b) = (a = b) := propext ⟨fun h => by rw [← h1 a, h, h1], fun h => by rw [h]⟩
theorem pp_jup (h1 : ∀ a, r (p a) = a) (h2 : ∀ a, p (r a) = a) {β : Type} (f : Nat → β) (a : Nat) (x : β) : jup (fun b => f (r b)) (p a) x = fun b => jup f a x (r b) := by
  funext b
  unfold jup
  by_cases h : r b = a
  · rw [if_pos h, if_pos (by rw [← h, h2])]
  · rw [if_neg h, if_neg (fun e => h (by rw [e, h1]))]
theorem pp_ju (h1 : ∀ a, r (p a) = a) (h2 : ∀ a, p (r a) = a) {β : Type} (f : Nat → Nat → β) (a k : Nat) (x : β) : ju (fun b => f (r b)) (p a) k x = fun b => ju f a k x (r b) := by
  unfold ju
  dsimp only
  rw [h1]
  exact pp_jup h1 h2 f a _
theorem pp_sI (h1 : ∀ a, r (p a) = a) (h2 : ∀ a, p (r a) = a) (S : jS) (a k : Nat) (x : Int32) : jsI (pP p r S) (p a) k x = pP p r (jsI S a k x) := by
  show (_, ju (fun b => S.2.1 (r b)) (p a) k x, _) = _
  rw [pp_ju h1 h2]
  rfl
theorem pp_sJ (h1 : ∀ a, r (p a) = a) (h2 : ∀ a, p (r a) = a) (S : jS) (a k : Nat) (x : Int64) : jsJ (pP p r S) (p a) k x = pP p r (jsJ S a k x) := by
  show (_, _, ju (fun b => S.2.2 (r b)) (p a) k x) = _
  rw [pp_ju h1 h2]
  rfl
theorem pp_sR (h1 : ∀ a, r (p a) = a) (h2 : ∀ a, p (r a) = a) (S : jS) (a k : Nat) (x : Option Nat) : jsR (pP p r S) (p a) k (x.map p) = pP p r (jsR S a k x) := by
  have e : ju (fun b j => (S.1.2.2.1 (r b) j).map p) (p a) k (x.map p) = fun b j => (ju S.1.2.2.1 a k x (r b) j).map p := by
    rw [pp_ju h1 h2 (fun b j => (S.1.2.2.1 b j).map p) a k (x.map p)]
    funext b j
    unfold ju jup
    by_cases h : r b = a
    · rw [if_pos h, if_pos h]
      by_cases hj : j = k
      · rw [if_pos hj, if_pos hj]
      · rw [if_neg hj, if_neg hj]
    · rw [if_neg h, if_neg h]
  show ((_, _, ju (fun b j => (S.1.2.2.1 (r b) j).map p) (p a) k (x.map p), _), _) = _
  rw [e]
  rfl
theorem pp_sRn (h1 : ∀ a, r (p a) = a) (h2 : ∀ a, p (r a) = a) (S : jS) (a k : Nat) : jsR (pP p r S) (p a) k none = pP p r (jsR S a k none) := pp_sR h1 h2 S a k none
theorem pp_sRs (h1 : ∀ a, r (p a) = a) (h2 : ∀ a, p (r a) = a) (S : jS) (a k b : Nat) : jsR (pP p r S) (p a) k (some (p b)) = pP p r (jsR S a k (some b)) := pp_sR h1 h2 S a k (some b)
theorem pp_cp (h1 : ∀ a, r (p a) = a) (h2 : ∀ a, p (r a) = a) (S : jS) (a sp b dp n : Nat) : jcp (pP p r S) (p a) sp (p b) dp n = pP p r (jcp S a sp b dp n) := by
  show (_, jup (fun b => S.2.1 (r b)) (p b) (va_cpy (S.2.1 (r (p a))) (S.2.1 (r (p b))) sp dp n), _) = _
  rw [pp_jup h1 h2, h1, h1]
  rfl
theorem pp_cq (h1 : ∀ a, r (p a) = a) (h2 : ∀ a, p (r a) = a) (S : jS) (a sp b dp n : Nat) : jcq (pP p r S) (p a) sp (p b) dp n = pP p r (jcq S a sp b dp n) := by
  show (_, _, jup (fun b => S.2.2 (r b)) (p b) (va_cpy (S.2.2 (r (p a))) (S.2.2 (r (p b))) sp dp n)) = _
  rw [pp_jup h1 h2, h1, h1]
  rfl
theorem pp_al (h1 : ∀ a, r (p a) = a) (h2 : ∀ a, p (r a) = a) (S : jS) (kd ln n : Nat) (h3 : p (jC S + 1) = jC S + 1) : jal (pP p r S) kd ln n = pP p r (jal S kd ln n) := by
  have e : ∀ {β : Type} (f : Nat → β) (x : β), jup (fun b => f (r b)) (jC S + 1) x = fun b => jup f (jC S + 1) x (r b) := fun f x => by
    have := pp_jup h1 h2 f (jC S + 1) x
    rw [h3] at this
    exact this
  have eR : jup (fun b j => (S.1.2.2.1 (r b) j).map p) (jC S + 1) (fun _ => none) = fun b j => (jup S.1.2.2.1 (jC S + 1) (fun _ => none) (r b) j).map p := by
    rw [e (fun b j => (S.1.2.2.1 b j).map p) (fun _ => none)]
    funext b j
    unfold jup
    by_cases h : r b = jC S + 1
    · rw [if_pos h, if_pos h]; rfl
    · rw [if_neg h, if_neg h]
  show ((jup (fun b => S.1.1 (r b)) (jC S + 1) kd, jup (fun b => S.1.2.1 (r b)) (jC S + 1) ln, jup (fun b j => (S.1.2.2.1 (r b) j).map p) (jC S + 1) (fun _ => none), jC S + 1, jQ S + n), jup (fun b => S.2.1 (r b)) (jC S + 1) (fun _ => 0), jup (fun b => S.2.2 (r b)) (jC S + 1) (fun _ => 0)) = _
  rw [e, e, e, e, eR]
  rfl
theorem pp_rm (S : jS) (n : Nat) : jrm (pP p r S) n = jrm S n := rfl
theorem pp_C (S : jS) : jC (pP p r S) = jC S := rfl
theorem pp_Q (S : jS) : jQ (pP p r S) = jQ S := rfl
theorem pp_new (n : Nat) (h3 : p n = n) (l : List Value) : Value.ref n :: pL p l = pL p (.ref n :: l) := by rw [pp_r, h3]
theorem pp_get (h1 : ∀ a, r (p a) = a) (own n : Nat) (S : jS) (st : List Value) (bad : α) (k : Value → List Value → α) : jget own n (pP p r S) (pL p st) bad k = jget own n S st bad (fun v l => k (jrv p v) (pL p l)) := by
  unfold jget
  split
  · rfl
  · rw [pp_jpr]
    congr 1
    funext a l
    rw [pp_K h1, pp_R h1, pp_I h1, pp_J h1, pp_jo]
    rfl
theorem pp_put (h1 : ∀ a, r (p a) = a) (h2 : ∀ a, p (r a) = a) (own n : Nat) (ini : Bool) (S : jS) (st : List Value) (bad : α) (k : jS → List Value → α) : jput own n ini (pP p r S) (pL p st) bad k = jput own n ini S st bad (fun S l => k (pP p r S) (pL p l)) := by
  unfold jput
  split
  · rfl
  · congr 1
    split <;> simp only [pp_jp1, pp_jq1, pp_jpr, pp_jpo, pp_K h1, pp_sI h1 h2, pp_sJ h1 h2, pp_sRn h1 h2, pp_sRs h1 h2]
theorem pp_step (h1 : ∀ a, r (p a) = a) (h2 : ∀ a, p (r a) = a) (own : Nat) (ini : Bool) (rt : Nat) (i : Instr) (pc : Nat) (lv st : List Value) (S : jS) (bad : α) (kn : Nat → List Value → List Value → jS → α) (kc : Nat → List Value → List Value → α) (kr : Option Value → jS → α) (h3 : p (jC S + 1) = jC S + 1) :
    jstep own ini rt i pc (pL p lv) (pL p st) (pP p r S) bad kn kc kr = jstep own ini rt i pc lv st S bad (fun pc' lv' st' S' => kn pc' (pL p lv') (pL p st') (pP p r S')) (fun m as rest => kc m (pL p as) (pL p rest)) (fun v S' => kr (v.map (jrv p)) (pP p r S')) := by
  have hn := fun l => pp_new (p := p) (jC S + 1) h3 l
  unfold jstep
  split <;> first
    | rfl
    | (simp only [pp_jp1, pp_jq1, pp_jpr, pp_jpo, pp_jpv, pp_jp0, pp_jo, pp_jld, pp_len, pp_drop, pp_take, pp_rev, pp_cat, pp_exp, pp_st1i, pp_st1n, pp_st1r, pp_st2, pp_K h1, pp_Ln h1, pp_I h1, pp_J h1, pp_R h1, pp_eq h1, pp_sI h1 h2, pp_sJ h1 h2, pp_sRn h1 h2, pp_sRs h1 h2, pp_cp h1 h2, pp_cq h1 h2, pp_rm, pp_get h1, pp_put h1 h2, pp_i, pp_l, pp_r, pp_n, pp_c, ne_eq]; done)
    | (simp only [pp_jp1, pp_jq1, pp_jpr, pp_jpo, pp_jpv, pp_jp0, pp_jo, pp_jld, pp_len, pp_drop, pp_take, pp_rev, pp_cat, pp_exp, pp_st1i, pp_st1n, pp_st1r, pp_st2, pp_K h1, pp_Ln h1, pp_I h1, pp_J h1, pp_R h1, pp_eq h1, pp_sI h1 h2, pp_sJ h1 h2, pp_sRn h1 h2, pp_sRs h1 h2, pp_cp h1 h2, pp_cq h1 h2, pp_rm, pp_get h1, pp_put h1 h2, pp_i, pp_l, pp_n, pp_c, ne_eq]; rfl)
    | (simp only [pp_jp1, pp_rm, pp_C, pp_al h1 h2 S _ _ _ h3, hn]; done)
    | (split <;> first
        | rfl
        | (simp only [pp_jp1, pp_jq1, pp_jpr, pp_jpo, pp_jpv, pp_jp0, pp_jo, pp_jld, pp_len, pp_drop, pp_take, pp_rev, pp_cat, pp_er, pp_exp, pp_K h1, pp_Ln h1, pp_I h1, pp_J h1, pp_R h1, pp_eq h1, pp_cp h1 h2, pp_cq h1 h2, pp_rm, pp_C, pp_al h1 h2 S _ _ _ h3, hn, pp_i, pp_l, pp_n, ne_eq]; done)
        | (simp only [pp_jp1, pp_jq1, pp_jpr, pp_jpo, pp_jpv, pp_jp0, pp_jo, pp_jld, pp_len, pp_drop, pp_take, pp_rev, pp_cat, pp_er, pp_exp, pp_K h1, pp_Ln h1, pp_I h1, pp_J h1, pp_R h1, pp_eq h1, pp_cp h1 h2, pp_cq h1 h2, pp_rm, pp_C, pp_al h1 h2 S _ _ _ h3, hn, pp_i, pp_l, pp_n, pp_r, ne_eq]))
end HH
end PP
section RR
variable {p r : Nat → Nat}
def pO (p r : Nat → Nat) (o : Option Value × jS) : Option Value × jS := (o.1.map (jrv p), pP p r o.2)
theorem pp_ret {rt : Nat} {x : Option Value × jS} {k k' : List Value → jS → jO} {out : Option Value × jS} (hk : ∀ vs, k vs x.2 = some out → k' (pL p vs) (pP p r x.2) = some (pO p r out)) (h : jret rt (some x) k = some out) : jret rt (some (pO p r x)) k' = some (pO p r out) := by
  obtain ⟨o, S⟩ := x
  unfold jret at h ⊢
  split at h <;> first
    | (cases h; done)
    | (simp only [jcV, jcI, jcJ, jcR] at h; split at h <;> first | (cases h; done) | (rename_i heq; cases heq; exact hk _ h))
theorem pp_run (h1 : ∀ a, r (p a) = a) (h2 : ∀ a, p (r a) = a) {N : Nat} (h3 : ∀ a, N < a → p a = a) (n : Nat) : ∀ (d mi pc : Nat) (lv st : List Value) (S : jS) (out : Option Value × jS), N ≤ jC S → jrun n d mi pc lv st S = some out → jrun n d mi pc (pL p lv) (pL p st) (pP p r S) = some (pO p r out) := by
  induction n with
  | zero => intro d mi pc lv st S out hN h; rw [jrun.eq_def] at h; cases h
  | succ n ih =>
    intro d mi pc lv st S out hN h
    rw [jrun_succ] at h ⊢
    unfold jnx at h ⊢
    cases hq : jat' mi pc with
    | none => rw [hq] at h; cases h
    | some q =>
      rw [hq] at h
      dsimp only at h ⊢
      rw [pp_step h1 h2 _ _ _ _ _ _ _ _ _ _ _ _ (h3 _ (by omega))]
      rw [jstep_fac] at h ⊢
      have hle : ∀ a b c d', jstO (jmt mi).1 (jini mi) (jmt mi).2.2.1 q.1 pc lv st S = some (.inl (a, b, c, d')) → jC S ≤ jC d' := by
        intro a b c d' e
        have := jstep_ind (P := fun o : Option jOc => ∀ a b c d', o = some (.inl (a, b, c, d')) → jC S ≤ jC d') (own := (jmt mi).1) (ini := jini mi) (rt := (jmt mi).2.2.1) (i := q.1) (pc := pc) (lv := lv) (st := st) (S := S) (bad := none) (kn := fun a b c d => some (.inl (a, b, c, d))) (kc := fun a b c => some (.inr (.inl (a, b, c)))) (kr := fun v s => some (.inr (.inr (v, s)))) (fun _ _ _ _ h => by cases h) (fun _ _ _ S' hS _ _ _ _ h => by cases h; exact hS.1) (fun _ _ _ _ _ _ _ h => by cases h) (fun _ _ _ _ _ h => by cases h)
        exact this a b c d' e
      cases ho : jstO (jmt mi).1 (jini mi) (jmt mi).2.2.1 q.1 pc lv st S with
      | none => rw [ho] at h; cases h
      | some o =>
        rw [ho] at h
        rcases o with ⟨a, b, c, s⟩ | ⟨a, b, c⟩ | ⟨v, s⟩
        · rw [jel_n] at h ⊢
          rw [pp_klp]
          exact ih _ _ _ _ _ _ _ (Nat.le_trans hN (hle _ _ _ _ ho)) h
        · rw [jel_c] at h ⊢
          cases hw : jcw (jrun n) d a b S with
          | none => rw [hw, jret_none] at h; cases h
          | some x =>
            rw [hw] at h
            obtain ⟨d', rfl, hr⟩ := jcw_inv hw
            have e1 : jcw (jrun n) (d' + 1) a (pL p b) (pP p r S) = some (pO p r x) := by
              show jrun n d' a 0 (jent _ (pL p b)) [] (pP p r S) = _
              rw [pp_ent]
              exact ih _ _ _ _ [] _ _ hN hr
            rw [e1]
            refine pp_ret (fun vs hh => ?_) h
            rw [pp_klp, pp_app]
            exact ih _ _ _ _ _ _ _ (Nat.le_trans hN (jrun_le n _ _ _ _ _ _ _ hr).1) hh
        · rw [jel_r] at h ⊢
          cases h
          rfl
theorem pp_val (h1 : ∀ a, r (p a) = a) (h2 : ∀ a, p (r a) = a) {N : Nat} (h3 : ∀ a, N < a → p a = a) {d mi pc : Nat} {lv st : List Value} {S : jS} {out : Option Value × jS} (hN : N ≤ jC S) (h : jval d mi pc lv st S = some out) : jval d mi pc (pL p lv) (pL p st) (pP p r S) = some (pO p r out) := by
  obtain ⟨n, hn⟩ := jval_iff.mp h
  exact jval_iff.mpr ⟨n, pp_run h1 h2 h3 n _ _ _ _ _ _ _ hN hn⟩
end RR

/-! TOP: the constructors: heaps by lists, step lemmas -/
set_option maxRecDepth 100000
set_option maxHeartbeats 4000000
/-- kinds and lengths of the cells as the constructors make them (by wip/whole/sym.py: HR) -/
def jk0o : List Nat := [20, 12, 14, 9, 17, 2, 2, 2, 2, 6, 14, 15, 18, 11, 14, 14, 14, 14, 14, 16, 16, 3, 16, 16, 16, 16, 15, 15, 15, 14, 14, 16, 5, 15, 15, 15, 15, 7, 14, 15, 14, 1, 10, 17, 2, 2, 2, 2, 19, 2, 2, 15, 14, 10, 17, 2, 2, 2, 2, 10, 17, 2, 2, 2, 2, 10, 17, 2, 2, 2, 2, 10, 17, 2, 2, 2, 2, 10, 17, 2, 2, 2, 2, 10, 17, 2, 2, 2, 2, 10, 17, 2, 2, 2, 2, 10, 17, 2, 2, 2, 2, 10, 17, 2, 2, 2, 2, 10, 17, 2, 2, 2, 2, 8, 14, 15, 14, 14, 15, 13, 15, 15, 15, 15, 15, 15, 15, 15, 15, 15, 15, 15, 15, 15, 15, 15, 15, 15, 16, 16, 15, 15, 15, 15, 15, 15, 15, 15, 15, 15, 15, 15, 15, 15, 15, 15, 15, 15, 15, 15, 15, 15, 15, 15, 15, 15, 15, 15, 15, 15, 15]
def jl0o : List Nat := [0, 0, 120, 0, 4, 0, 0, 0, 0, 0, 0, 0, 6, 0, 2200, 220, 100, 100, 100, 10, 10, 0, 20, 20, 20, 20, 64, 256, 128, 64, 64, 10, 0, 121, 121, 10, 3, 0, 0, 120, 120, 0, 0, 4, 0, 0, 0, 0, 10, 0, 0, 120, 0, 0, 4, 0, 0, 0, 0, 0, 4, 0, 0, 0, 0, 0, 4, 0, 0, 0, 0, 0, 4, 0, 0, 0, 0, 0, 4, 0, 0, 0, 0, 0, 4, 0, 0, 0, 0, 0, 4, 0, 0, 0, 0, 0, 4, 0, 0, 0, 0, 0, 4, 0, 0, 0, 0, 0, 4, 0, 0, 0, 0, 0, 160, 4, 40, 160, 4, 0, 3, 1792, 120, 10, 10, 3, 10240, 10240, 30720, 10240, 10240, 10240, 10240, 11, 10, 10, 2210, 220, 10, 10, 130, 130, 130, 130, 130, 40, 120, 120, 120, 120, 120, 5, 5, 56, 5, 40, 4000, 100, 160, 4, 160, 4, 40, 121, 121, 121, 121, 121, 121, 120, 1506]
def hhK (n a : Nat) : Nat := if a ≤ n then jnth jk0o a 0 else 0
def hhN (L n a : Nat) : Nat := if a = 0 then L else if a ≤ n then jnth jl0o a 0 else 0
def hhR : List (Nat × Nat × Option Nat) → Nat → Nat → Option Nat
  | [] => fun _ _ => none
  | e :: r => ju (hhR r) e.1 e.2.1 e.2.2
def hhI (xs : Nat → Int32) : List (Nat × Nat × Int32) → Nat → Nat → Int32
  | [] => fun a => if a = 0 then xs else fun _ => 0
  | e :: r => ju (hhI xs r) e.1 e.2.1 e.2.2
def hhJ : List (Nat × Nat × Int64) → Nat → Nat → Int64
  | [] => fun _ _ => 0
  | e :: r => ju (hhJ r) e.1 e.2.1 e.2.2
abbrev hhG (L n q : Nat) (rl : List (Nat × Nat × Option Nat)) : jG := (hhK n, hhN L n, hhR rl, n, q)
abbrev hhS (L : Nat) (xs : Nat → Int32) (n q : Nat) (rl : List (Nat × Nat × Option Nat)) (wl : List (Nat × Nat × Int32)) (jl : List (Nat × Nat × Int64)) : jS := (hhG L n q rl, hhI xs wl, hhJ jl)
def hhB (n : Nat) (rl : List (Nat × Nat × Option Nat)) (wl : List (Nat × Nat × Int32)) (jl : List (Nat × Nat × Int64)) : Prop := (∀ r ∈ rl, r.1 ≤ n) ∧ (∀ r ∈ wl, r.1 ≤ n) ∧ ∀ r ∈ jl, r.1 ≤ n
section HH
variable {L n q : Nat} {xs : Nat → Int32} {rl : List (Nat × Nat × Option Nat)} {wl : List (Nat × Nat × Int32)} {jl : List (Nat × Nat × Int64)}
theorem hhB_0 : hhB n [] [] [] := ⟨(by intro r h; cases h), (by intro r h; cases h), (by intro r h; cases h)⟩
theorem hhB_n (h : hhB n rl wl jl) : hhB (n + 1) rl wl jl := ⟨fun r hr => Nat.le_succ_of_le (h.1 r hr), fun r hr => Nat.le_succ_of_le (h.2.1 r hr), fun r hr => Nat.le_succ_of_le (h.2.2 r hr)⟩
theorem hhB_r {a k : Nat} {v : Option Nat} (h : hhB n rl wl jl) (ha : a ≤ n) : hhB n ((a, k, v) :: rl) wl jl := ⟨fun r hr => by
  rcases List.mem_cons.mp hr with e | e
  · rw [e]; exact ha
  · exact h.1 r e, h.2⟩
theorem hhB_w {a k : Nat} {v : Int32} (h : hhB n rl wl jl) (ha : a ≤ n) : hhB n rl ((a, k, v) :: wl) jl := ⟨h.1, fun r hr => by
  rcases List.mem_cons.mp hr with e | e
  · rw [e]; exact ha
  · exact h.2.1 r e, h.2.2⟩
theorem hhB_j {a k : Nat} {v : Int64} (h : hhB n rl wl jl) (ha : a ≤ n) : hhB n rl wl ((a, k, v) :: jl) := ⟨h.1, h.2.1, fun r hr => by
  rcases List.mem_cons.mp hr with e | e
  · rw [e]; exact ha
  · exact h.2.2 r e⟩
theorem hhR_out : ∀ {rl : List (Nat × Nat × Option Nat)} {a : Nat}, (∀ r ∈ rl, r.1 < a) → hhR rl a = fun _ => none
  | [], _, _ => rfl
  | e :: r, a, h => by
    show ju (hhR r) e.1 e.2.1 e.2.2 a = _
    rw [ju_n (by have := h e List.mem_cons_self; omega)]
    exact hhR_out (fun x hx => h x (List.mem_cons_of_mem _ hx))
theorem hhI_out : ∀ {wl : List (Nat × Nat × Int32)} {a : Nat}, 0 < a → (∀ r ∈ wl, r.1 ≠ a) → hhI xs wl a = fun _ => 0
  | [], a, h0, _ => by
    show (if a = 0 then xs else fun _ => 0) = _
    rw [if_neg (by omega)]
  | e :: r, a, h0, h => by
    show ju (hhI xs r) e.1 e.2.1 e.2.2 a = _
    rw [ju_n (by have := h e List.mem_cons_self; omega)]
    exact hhI_out h0 (fun x hx => h x (List.mem_cons_of_mem _ hx))
theorem hhJ_out : ∀ {jl : List (Nat × Nat × Int64)} {a : Nat}, (∀ r ∈ jl, r.1 ≠ a) → hhJ jl a = fun _ => 0
  | [], _, _ => rfl
  | e :: r, a, h => by
    show ju (hhJ r) e.1 e.2.1 e.2.2 a = _
    rw [ju_n (by have := h e List.mem_cons_self; omega)]
    exact hhJ_out (fun x hx => h x (List.mem_cons_of_mem _ hx))
theorem jup_id {α : Type} {f : Nat → α} {a : Nat} {x : α} (h : f a = x) : jup f a x = f := by
  funext b
  by_cases e : b = a
  · rw [e, jup_s, h]
  · rw [jup_n e]
theorem hal {kd ln m : Nat} (hb : hhB n rl wl jl) (h1 : jnth jk0o (n + 1) 0 = kd) (h2 : jnth jl0o (n + 1) 0 = ln) : jal (hhS L xs n q rl wl jl) kd ln m = hhS L xs (n + 1) (q + m) rl wl jl := by
  have e1 : jup (hhK n) (n + 1) kd = hhK (n + 1) := by
    funext a
    unfold jup hhK
    by_cases e : a = n + 1
    · rw [if_pos e, if_pos (by omega), e, h1]
    · rw [if_neg e]
      by_cases e2 : a ≤ n
      · rw [if_pos e2, if_pos (by omega)]
      · rw [if_neg e2, if_neg (by omega)]
  have e2 : jup (hhN L n) (n + 1) ln = hhN L (n + 1) := by
    funext a
    unfold jup hhN
    by_cases e : a = n + 1
    · rw [if_pos e, if_neg (by omega), if_pos (by omega), e, h2]
    · rw [if_neg e]
      by_cases e0 : a = 0
      · rw [if_pos e0, if_pos e0]
      · rw [if_neg e0, if_neg e0]
        by_cases e2 : a ≤ n
        · rw [if_pos e2, if_pos (by omega)]
        · rw [if_neg e2, if_neg (by omega)]
  have e3 : jup (hhR rl) (n + 1) (fun _ => none) = hhR rl := jup_id (hhR_out (fun r hr => Nat.lt_succ_of_le (hb.1 r hr)))
  have e4 : jup (hhI xs wl) (n + 1) (fun _ => 0) = hhI xs wl := jup_id (hhI_out (Nat.succ_pos n) (fun r hr => by have := hb.2.1 r hr; omega))
  have e5 : jup (hhJ jl) (n + 1) (fun _ => 0) = hhJ jl := jup_id (hhJ_out (fun r hr => by have := hb.2.2 r hr; omega))
  show ((jup (hhK n) (n + 1) kd, jup (hhN L n) (n + 1) ln, jup (hhR rl) (n + 1) (fun _ => none), n + 1, q + m), jup (hhI xs wl) (n + 1) (fun _ => 0), jup (hhJ jl) (n + 1) (fun _ => 0)) = _
  rw [e1, e2, e3, e4, e5]
theorem hhK_le {a c : Nat} (h : a ≤ n) (hc : jnth jk0o a 0 = c) : hhK n a = c := by unfold hhK; rw [if_pos h, hc]
theorem hhN_le {a c : Nat} (h : a ≤ n) (h0 : 0 < a) (hc : jnth jl0o a 0 = c) : hhN L n a = c := by unfold hhN; rw [if_neg (by omega), if_pos h, hc]
/-- where the run X stands -/
def At (L : Nat) (xs : Nat → Int32) (X : jO) (d m pc : Nat) (lv st : List Value) (n q : Nat) (rl : List (Nat × Nat × Option Nat)) (wl : List (Nat × Nat × Int32)) (jl : List (Nat × Nat × Int64)) : Prop := X = jval d m pc lv st (hhS L xs n q rl wl jl) ∧ hhB n rl wl jl
theorem hrm {k n' q' : Nat} (hn : n + 1 = n') (hq : q + k = q') (r1 : n' ≤ 600000) (r2 : q' ≤ 7302250) : jrm (hhS L xs n q rl wl jl) k = true := jb_t.mpr ⟨by show n + 1 ≤ _; omega, by show q + k ≤ _; omega⟩
variable {X : jO} {d m pc pc' : Nat} {lv st lv' st' r : List Value}
theorem st_ar {x : Int32} {kd k n' q' : Nat} (e : ∀ g I J, jval d m pc lv st (g, I, J) = cond (jb (0 ≤ x) && jrm (g, I, J) x.toNatClampNeg) (jval d m pc' lv' (.ref (g.2.2.2.1 + 1) :: r) (jal (g, I, J) kd x.toNatClampNeg x.toNatClampNeg)) none) (hn : n + 1 = n') (hk : x.toNatClampNeg = k) (hx : 0 ≤ x) (h1 : jnth jk0o n' 0 = kd) (h2 : jnth jl0o n' 0 = k) (hq : q + k = q') (r1 : n' ≤ 600000) (r2 : q' ≤ 7302250) (h : At L xs X d m pc lv st n q rl wl jl) : At L xs X d m pc' lv' (.ref n' :: r) n' q' rl wl jl := by
  obtain ⟨h, hb⟩ := h
  have hr : jrm (hhS L xs n q rl wl jl) k = true := hrm hn hq r1 r2
  subst hn hq
  refine ⟨?_, hhB_n hb⟩
  rw [h, e, hk, jb_t.mpr hx, hr, hal hb h1 h2]
  rfl
theorem st_no {kd k n' q' : Nat} (e : ∀ g I J, jval d m pc lv st (g, I, J) = cond (jrm (g, I, J) k) (jval d m pc' lv' (.ref (g.2.2.2.1 + 1) :: r) (jal (g, I, J) kd 0 k)) none) (hn : n + 1 = n') (h1 : jnth jk0o n' 0 = kd) (h2 : jnth jl0o n' 0 = 0) (hq : q + k = q') (r1 : n' ≤ 600000) (r2 : q' ≤ 7302250) (h : At L xs X d m pc lv st n q rl wl jl) : At L xs X d m pc' lv' (.ref n' :: r) n' q' rl wl jl := by
  obtain ⟨h, hb⟩ := h
  have hr : jrm (hhS L xs n q rl wl jl) k = true := hrm hn hq r1 r2
  subst hn hq
  refine ⟨?_, hhB_n hb⟩
  rw [h, e, hr, hal hb h1 h2]
  rfl
theorem st_pf {a c k v : Nat} (e : ∀ g I J, jval d m pc lv st (g, I, J) = if g.1 a = c then (jval d m pc' lv' st' (jgsR g a k (some v), I, J)) else none) (ha : a ≤ n) (hk : jnth jk0o a 0 = c) (h : At L xs X d m pc lv st n q rl wl jl) : At L xs X d m pc' lv' st' n q ((a, k, some v) :: rl) wl jl := by
  obtain ⟨h, hb⟩ := h
  refine ⟨?_, hhB_r hb ha⟩
  rw [h, e, if_pos (show (hhG L n q rl).1 a = c from hhK_le ha hk)]
  rfl
theorem st_go (e : ∀ g I J, jval d m pc lv st (g, I, J) = jval d m pc' lv' st' (g, I, J)) (h : At L xs X d m pc lv st n q rl wl jl) : At L xs X d m pc' lv' st' n q rl wl jl := ⟨h.1.trans (e _ _ _), h.2⟩
theorem st_rt (e : ∀ g I J, jval d m pc lv st (g, I, J) = some (none, (g, I, J))) (h : At L xs X d m pc lv st n q rl wl jl) : X = some (none, hhS L xs n q rl wl jl) ∧ hhB n rl wl jl := ⟨h.1.trans (e _ _ _), h.2⟩
theorem st_cl {m2 n' q' : Nat} {args : List Value} {rl' : List (Nat × Nat × Option Nat)} {wl' : List (Nat × Nat × Int32)} {jl' : List (Nat × Nat × Int64)} (e : ∀ g I J, jval d m pc lv st (g, I, J) = jcV (jcall d m2 args (g, I, J)) (fun S1 => jval d m pc' lv' st' S1)) (h : At L xs X d m pc lv st n q rl wl jl) (hc : hhB n rl wl jl → jcall d m2 args (hhS L xs n q rl wl jl) = some (none, hhS L xs n' q' rl' wl' jl') ∧ hhB n' rl' wl' jl') : At L xs X d m pc' lv' st' n' q' rl' wl' jl' := by
  obtain ⟨h, hb⟩ := h
  obtain ⟨c1, c2⟩ := hc hb
  refine ⟨?_, c2⟩
  rw [h, e, c1]
  rfl
theorem st_aa {a v j ka : Nat} {x : Int32} (e : ∀ g I J, jval d m pc lv st (g, I, J) = if 17 ≤ g.1 a ∧ g.1 a ≤ 19 then (if g.1 v = jel (g.1 a) then (cond (jin x (g.2.1 a)) (jval d m pc' lv' st' (jgsR g a x.toNatClampNeg (some v), I, J)) none) else none) else none) (ha : a ≤ n) (ha0 : 0 < a) (hk : jnth jk0o a 0 = ka) (k1 : 17 ≤ ka) (k2 : ka ≤ 19) (hv : v ≤ n) (hkv : jnth jk0o v 0 = jel ka) (hx : 0 ≤ x) (hj : x.toNatClampNeg = j) (hl : j < jnth jl0o a 0) (h : At L xs X d m pc lv st n q rl wl jl) : At L xs X d m pc' lv' st' n q ((a, j, some v) :: rl) wl jl := by
  obtain ⟨h, hb⟩ := h
  refine ⟨?_, hhB_r hb ha⟩
  have z1 : hhK n a = ka := hhK_le ha hk
  have z2 : hhK n v = jel ka := hhK_le hv hkv
  have z3 : hhN L n a = jnth jl0o a 0 := hhN_le ha ha0 rfl
  rw [h, e, if_pos (show 17 ≤ hhK n a ∧ hhK n a ≤ 19 by rw [z1]; exact ⟨k1, k2⟩), if_pos (show hhK n v = jel (hhK n a) by rw [z1, z2]), show jin x ((hhG L n q rl).2.1 a) = true from jin_t.mpr ⟨hx, by rw [hj]; show j < hhN L n a; rw [z3]; exact hl⟩, cond_true, hj]
  rfl
/-! the leaves -/
theorem k_Lang (d : Nat) {a : Nat} (ha : a ≤ n) (hk : jnth jk0o a 0 = 2) (hb : hhB n rl wl jl) : jcall (d + 2) 16 [.ref a] (hhS L xs n q rl wl jl) = some (none, hhS L xs n q rl ((a, 3, 1) :: (a, 2, 1) :: wl) ((a, 1, 0) :: (a, 0, 0) :: jl)) ∧ hhB n rl ((a, 3, 1) :: (a, 2, 1) :: wl) ((a, 1, 0) :: (a, 0, 0) :: jl) := by
  have z : (hhG L n q rl).1 a = 2 := hhK_le ha hk
  refine ⟨?_, hhB_j (hhB_j (hhB_w (hhB_w hb ha) ha) ha) ha⟩
  rw [c_Lang_init, eg_Lang_init_0, if_pos z, c_Lang_makeAll, eg_Lang_makeAll_0, if_pos z, if_pos z, if_pos z, if_pos z, jcV_some, eg_Lang_init_8]
  rfl
theorem eg_Program_init_0n (d : Nat) (g : jG) (I : Nat → Nat → Int32) (J : Nat → Nat → Int64) (a0 : Nat) (x2 : Int32) (a3 : Nat) (a4 : Nat) : jval d 60 0 [.ref a0, .null, .int x2, .ref a3, .ref a4] [] (g, I, J) = if g.1 a0 = 6 then (jval d 60 9 [.ref a0, jjunk, .int x2, .ref a3, .ref a4] [] ((jgsR g a0 0 none), I, J)) else none := (jgo pg_Program_init 400 d 0 _ _ _ rfl rfl rfl rfl rfl).trans rfl
theorem k_Program (d : Nat) {a c b : Nat} (ha : a ≤ n) (hk : jnth jk0o a 0 = 6) (hb : hhB n rl wl jl) : jcall (d + 1) 60 [.ref a, .null, .int (0 : Int32), .ref b, .ref c] (hhS L xs n q rl wl jl) = some (none, hhS L xs n q ((a, 3, some c) :: (a, 2, some b) :: (a, 0, none) :: rl) ((a, 1, 0) :: wl) jl) ∧ hhB n ((a, 3, some c) :: (a, 2, some b) :: (a, 0, none) :: rl) ((a, 1, 0) :: wl) jl := by
  have z : hhK n a = 6 := hhK_le ha hk
  refine ⟨?_, hhB_w (hhB_r (hhB_r (hhB_r hb ha) ha) ha) ha⟩
  rw [show jcall (d + 1) 60 [.ref a, .null, .int (0 : Int32), .ref b, .ref c] (hhS L xs n q rl wl jl) = jval d 60 0 [.ref a, .null, .int (0 : Int32), .ref b, .ref c] [] (hhS L xs n q rl wl jl) from rfl, eg_Program_init_0n, if_pos (show (hhG L n q rl).1 a = 6 from z), eg_Program_init_9, if_pos (show (jgsR (hhG L n q rl) a 0 none).1 a = 6 from z), if_pos (show (jgsR (hhG L n q rl) a 0 none).1 a = 6 from z), eg_Program_init_19, if_pos (show (jgsR (jgsR (hhG L n q rl) a 0 none) a 2 (some b)).1 a = 6 from z), eg_Program_init_25]
  rfl
theorem k_Setup2 (d : Nat) {a c b : Nat} (ha : a ≤ n) (hk : jnth jk0o a 0 = 9) (hb : hhB n rl wl jl) : jcall (d + 1) 103 [.ref a, .ref b, .ref c, .int (1 : Int32), .int (1 : Int32)] (hhS L xs n q rl wl jl) = some (none, hhS L xs n q ((a, 1, some c) :: (a, 0, some b) :: rl) ((a, 3, 1) :: (a, 2, 1) :: wl) jl) ∧ hhB n ((a, 1, some c) :: (a, 0, some b) :: rl) ((a, 3, 1) :: (a, 2, 1) :: wl) jl := by
  have z : hhK n a = 9 := hhK_le ha hk
  refine ⟨?_, hhB_w (hhB_w (hhB_r (hhB_r hb ha) ha) ha) ha⟩
  rw [show jcall (d + 1) 103 [.ref a, .ref b, .ref c, .int (1 : Int32), .int (1 : Int32)] (hhS L xs n q rl wl jl) = jval d 103 0 [.ref a, .ref b, .ref c, .int (1 : Int32), .int (1 : Int32)] [] (hhS L xs n q rl wl jl) from rfl, eg_Setup_init2_0, if_pos (show (hhG L n q rl).1 a = 9 from z), eg_Setup_init2_9, if_pos (show (jgsR (hhG L n q rl) a 0 (some b)).1 a = 9 from z), eg_Setup_init2_14, if_pos (show (jgsR (jgsR (hhG L n q rl) a 0 (some b)) a 1 (some c)).1 a = 9 from z), if_pos (show (jgsR (jgsR (hhG L n q rl) a 0 (some b)) a 1 (some c)).1 a = 9 from z)]
  rfl
/-! steps of a kind of their own -/
theorem st_S14 {x : Int32} {a b n' q' : Nat} (ha : a ≤ n) (hk : jnth jk0o a 0 = 10) (hr : hhR rl a 0 = some b) (hx : ¬ (4 : Int32) ≤ x) (hn : n + 1 = n') (h1 : jnth jk0o n' 0 = 2) (h2 : jnth jl0o n' 0 = 0) (hq : q + 4 = q') (r1 : n' ≤ 600000) (r2 : q' ≤ 7302250) (h : At L xs X d 109 14 [.ref a, .int x] [] n q rl wl jl) : At L xs X d 109 27 [.ref a, .int x] [.ref n', .int x, .ref b] n' q' rl wl jl := by
  obtain ⟨h, hb⟩ := h
  have hrm' : jrm (hhS L xs n q rl wl jl) 4 = true := hrm hn hq r1 r2
  subst hn hq
  refine ⟨?_, hhB_n hb⟩
  rw [h, eg_State_init_14, jif_f hx, if_pos (show (hhG L n q rl).1 a = 10 from hhK_le ha hk), show (hhG L n q rl).2.2.1 a 0 = some b from hr, jo_some, hrm', cond_true, hal hb h1 h2]
theorem st_S14e {x : Int32} {a : Nat} (hx : (4 : Int32) ≤ x) (h : At L xs X d 109 14 [.ref a, .int x] [] n q rl wl jl) : X = some (none, hhS L xs n q rl wl jl) ∧ hhB n rl wl jl := ⟨h.1.trans (by rw [eg_State_init_14, jif_t hx]), h.2⟩
theorem st_A73 {x : Int32} {a b n' q' : Nat} (ha : a ≤ n) (hk : jnth jk0o a 0 = 1) (hr : hhR rl a 4 = some b) (hb1 : b ≤ n) (hb0 : 0 < b) (hkb : jnth jk0o b 0 = 19) (hlb : jnth jl0o b 0 = 10) (hx : ¬ (10 : Int32) ≤ x) (hn : n + 1 = n') (h1 : jnth jk0o n' 0 = 10) (h2 : jnth jl0o n' 0 = 0) (hq : q + 2 = q') (r1 : n' ≤ 600000) (r2 : q' ≤ 7302250) (h : At L xs X d 0 73 [.ref a, jjunk, jjunk, .int x] [] n q rl wl jl) : At L xs X d 0 90 [.ref a, jjunk, jjunk, .int x] [.ref n', .int x, .ref b] n' q' rl wl jl := by
  obtain ⟨h, hb⟩ := h
  have hrm' : jrm (hhS L xs n q rl wl jl) 2 = true := hrm hn hq r1 r2
  subst hn hq
  have z1 : (hhG L n q rl).1 a = 1 := hhK_le ha hk
  have z2 : (hhG L n q rl).2.2.1 a 4 = some b := hr
  have z3 : (hhG L n q rl).1 b = 19 := hhK_le hb1 hkb
  have z4 : (hhG L n q rl).2.1 b = 10 := hhN_le hb1 hb0 hlb
  refine ⟨?_, hhB_n hb⟩
  rw [h, eg_Analysis_init_73, if_pos z1, z2, jo_some, if_pos (show 14 ≤ (hhG L n q rl).1 b by rw [z3]; decide), z4, jif_f (show ¬ Int32.ofNat 10 ≤ x from hx), if_pos z1, jo_some, hrm', cond_true, hal hb h1 h2]
theorem st_A73e {x : Int32} {a b : Nat} (ha : a ≤ n) (hk : jnth jk0o a 0 = 1) (hr : hhR rl a 4 = some b) (hb1 : b ≤ n) (hb0 : 0 < b) (hkb : jnth jk0o b 0 = 19) (hlb : jnth jl0o b 0 = 10) (hx : (10 : Int32) ≤ x) (h : At L xs X d 0 73 [.ref a, jjunk, jjunk, .int x] [] n q rl wl jl) : X = some (none, hhS L xs n q rl wl jl) ∧ hhB n rl wl jl := by
  obtain ⟨h, hb⟩ := h
  have z1 : (hhG L n q rl).1 a = 1 := hhK_le ha hk
  have z2 : (hhG L n q rl).2.2.1 a 4 = some b := hr
  have z3 : (hhG L n q rl).1 b = 19 := hhK_le hb1 hkb
  have z4 : (hhG L n q rl).2.1 b = 10 := hhN_le hb1 hb0 hlb
  refine ⟨?_, hb⟩
  rw [h, eg_Analysis_init_73, if_pos z1, z2, jo_some, if_pos (show 14 ≤ (hhG L n q rl).1 b by rw [z3]; decide), z4, jif_t (show Int32.ofNat 10 ≤ x from hx)]
theorem st_M279 {a n' q' : Nat} (ha : a ≤ n) (hk : jnth jk0o a 0 = 13) (hn : n + 1 = n') (h1 : jnth jk0o n' 0 = 15) (h2 : jnth jl0o n' 0 = 56) (hq : q + 56 = q') (r1 : n' ≤ 600000) (r2 : q' ≤ 7302250) (h : At L xs X d 250 279 [.ref a, jjunk] [] n q rl wl jl) : At L xs X d 250 294 [.ref a, jjunk] [.ref n', .ref a] n' q' rl ((a, 59, 1) :: (a, 58, 1) :: wl) jl := by
  obtain ⟨h, hb⟩ := h
  have hb' := hhB_w (k := 59) (v := 1) (hhB_w (k := 58) (v := 1) hb ha) ha
  have hrm' : jrm (hhG L n q rl, ju (ju (hhI xs wl) a 58 (1 : Int32)) a 59 (1 : Int32), hhJ jl) (56 : Int32).toNatClampNeg = true := hrm (wl := (a, 59, 1) :: (a, 58, 1) :: wl) (k := 56) hn hq r1 r2
  subst hn hq
  have z1 : (hhG L n q rl).1 a = 13 := hhK_le ha hk
  refine ⟨?_, hhB_n hb'⟩
  rw [h, eg_TextValuesModel_init_279, if_pos z1, if_pos z1, hrm', jb_t.mpr (show (0 : Int32) ≤ 56 by decide)]
  exact congrArg (jval d 250 294 [.ref a, jjunk] [.ref (n + 1), .ref a]) (hal (m := 56) hb' h1 h2)
end HH

/-! THE MINI MACHINE'S WORLD IN THE REAL ONE: addresses, values, cells, words -/
set_option maxRecDepth 100000
set_option maxHeartbeats 4000000
def jρ (b lo a : Nat) : Nat := if a = 0 then b else lo + (a - 1)
def jrv (ρ : Nat → Nat) : Value → Value
  | .ref a => .ref (ρ a)
  | v => v
theorem jρ_inj {b lo a c : Nat} (hb : b < lo) (h : jρ b lo a = jρ b lo c) : a = c := by
  unfold jρ at h
  split at h <;> split at h <;> omega
theorem jρ_pos {b lo a : Nat} (h : a ≠ 0) : jρ b lo a = lo + (a - 1) := if_neg h
/-- a field's value -/
def jFv (ρ : Nat → Nat) (S : jS) (a tg j : Nat) : Value := match tg with
  | 0 => .int (jI S a j)
  | 1 => .long (jJ S a j)
  | 3 => .int (jI S a j)
  | _ => va_rf ((jR S a j).map ρ)
def jFs (ρ : Nat → Nat) (S : jS) (a ci : Nat) : List Value := (List.range (jN ci)).map (fun j => jFv ρ S a (jtg ci j) j)
/-- a row's contents -/
def jEr (ρ : Nat → Nat) (S : jS) (a : Nat) : vp_A := (jLn S a, if jK S a = 14 ∨ jK S a = 15 then .inl (jI S a) else if jK S a = 16 then .inr (.inl (jJ S a)) else .inr (.inr (.inr (.inr (fun j => (jR S a j).map ρ)))))
def jE (ρ : Nat → Nat) (cy : Nat → ClassId) (S : jS) (a : Nat) : va_E := if jK S a ≤ 13 then .inr (jK S a - 1, jFs ρ S a (jK S a - 1)) else .inl (cy (jK S a), jEr ρ S a)
def jWd (b lo : Nat) (D : va_G) (cy : Nat → ClassId) (S : jS) (s : State) (H : Heap) : Prop :=
  b < lo ∧ H.size = lo + jC S ∧ va_X b (jLn S 0) (jI S 0) s H ∧ jK S 0 = 20 ∧ (∀ a, a ≠ 0 → jK S a ≠ 0 → jK S a < 20 ∧ a ≤ jC S ∧ va_at D jcl (jρ b lo a, jE (jρ b lo) cy S a) H) ∧ (∀ a, jK S a = 14 → ∀ j, (jI S a j).toInt8.toInt32 = jI S a j)
def jays (cy : Nat → ClassId) : List (ClassId × FieldType) := [(cy 14, .byte), (cy 15, .int), (cy 16, .long), (cy 17, .object "TextValues$Lang"), (cy 18, .object "TextValues$Setup"), (cy 19, .object "TextValues$State")]
def jisN : Cond → Bool
  | .fieldLinkNest .. => true
  | .methodLinkNest .. => true
  | _ => false
def jgd : List Cond := lw_tbl.filter goodWord
def jnw : List Cond := lw_tbl.filter jisN
def jKn (D : va_G) (cy : Nat → ClassId) (s : State) : Prop := va_K D jcl (jays cy) s ∧ (va_AO "TextValues$Lang" s ∧ va_AO "TextValues$Setup" s ∧ va_AO "TextValues$State" s) ∧ ∀ w ∈ jnw, va_Nw w s
theorem jgd_at {p : Nat} {w : Cond} (h : jtp p = some w) (hg : goodWord w = true) : w ∈ jgd := List.mem_filter.mpr ⟨jtp_in h, hg⟩
theorem jnw_at {p : Nat} {w : Cond} (h : jtp p = some w) (hg : jisN w = true) : w ∈ jnw := List.mem_filter.mpr ⟨jtp_in h, hg⟩
theorem jfind_mem {β : Type} {l : List (Nat × β)} {n : Nat} {b : β} (h : jfind l n = some b) : (n, b) ∈ l := by
  induction l with
  | nil => cases h
  | cons q l ih =>
    obtain ⟨k, x⟩ := q
    unfold jfind at h
    cases hk : k.beq n with
    | true =>
      rw [hk] at h
      have e := Nat.eq_of_beq_eq_true hk
      subst e
      cases h
      exact List.mem_cons_self
    | false =>
      rw [hk] at h
      exact List.mem_cons_of_mem _ (ih h)
theorem jnth_out {α : Type} (d : α) : ∀ (l : List α) (k : Nat), l.length ≤ k → jnth l k d = d
  | [], _, _ => rfl
  | _ :: l, 0, h => absurd h (by simp)
  | _ :: l, k + 1, h => jnth_out d l k (by simpa using h)
theorem jnth_get {α : Type} (d : α) : ∀ (l : List α) (k : Nat) (v : α), l[k]? = some v → jnth l k d = v
  | [], _, _, h => by simp at h
  | a :: l, 0, v, h => by
    have : some a = some v := h
    exact Option.some.inj this
  | _ :: l, k + 1, v, h => jnth_get d l k v (by simpa using h)
theorem jnth_in {α : Type} (d : α) : ∀ (l : List α) (k : Nat), jnth l k d ≠ d → l[k]? = some (jnth l k d)
  | [], _, h => absurd rfl h
  | _ :: l, 0, _ => rfl
  | _ :: l, k + 1, h => by
    show l[k]? = _
    exact jnth_in d l k h
theorem jcl_at {ci : Nat} (h : ci < 13) : jcl[ci]? = some (jow ci, jT ci, jN ci) := by
  unfold jcl
  rw [List.getElem?_map, List.getElem?_range h]
  rfl
theorem jFs_at {ρ : Nat → Nat} {S : jS} {a ci j : Nat} (h : j < jN ci) : (jFs ρ S a ci)[j]? = some (jFv ρ S a (jtg ci j) j) := by
  unfold jFs
  rw [List.getElem?_map, List.getElem?_range h]
  rfl
theorem jFs_V {ρ : Nat → Nat} {S : jS} {a ci j : Nat} (h : j < jN ci) : vp_V (jFs ρ S a ci) j = jFv ρ S a (jtg ci j) j := by
  unfold vp_V
  rw [List.getD_eq_getElem?_getD, jFs_at h]
  rfl
theorem jE_obj {ρ : Nat → Nat} {cy : Nat → ClassId} {S : jS} {a ci : Nat} (h : jK S a = ci + 1) (hc : ci < 13) : jE ρ cy S a = .inr (ci, jFs ρ S a ci) := by
  unfold jE
  rw [if_pos (by omega), h]
  rfl
theorem jE_row {ρ : Nat → Nat} {cy : Nat → ClassId} {S : jS} {a : Nat} (h : 14 ≤ jK S a) : jE ρ cy S a = .inl (cy (jK S a), jEr ρ S a) := by
  unfold jE
  rw [if_neg (by omega)]
theorem jEr_i {ρ : Nat → Nat} {S : jS} {a : Nat} (h : jK S a = 14 ∨ jK S a = 15) : jEr ρ S a = (jLn S a, .inl (jI S a)) := by
  unfold jEr
  rw [if_pos h]
theorem jEr_l {ρ : Nat → Nat} {S : jS} {a : Nat} (h : jK S a = 16) : jEr ρ S a = (jLn S a, .inr (.inl (jJ S a))) := by
  unfold jEr
  rw [if_neg (by omega), if_pos h]
theorem jEr_q {ρ : Nat → Nat} {S : jS} {a : Nat} (h : 17 ≤ jK S a) : jEr ρ S a = (jLn S a, .inr (.inr (.inr (.inr (fun j => (jR S a j).map ρ))))) := by
  unfold jEr
  rw [if_neg (by omega), if_neg (by omega)]
theorem jays_at {cy : Nat → ClassId} {k : Nat} (h : 14 ≤ k) (h2 : k ≤ 19) : ∃ ty, (jays cy)[k - 14]? = some (cy k, ty) ∧ (k = 14 → ty = .byte) ∧ (k = 15 → ty = .int) ∧ (k = 16 → ty = .long) ∧ (17 ≤ k → ∃ C, ty = .object C) := by
  rcases (show k = 14 ∨ k = 15 ∨ k = 16 ∨ k = 17 ∨ k = 18 ∨ k = 19 by omega) with rfl | rfl | rfl | rfl | rfl | rfl
  · exact ⟨_, rfl, fun _ => rfl, by decide, by decide, fun h => absurd h (by decide)⟩
  · exact ⟨_, rfl, by decide, fun _ => rfl, by decide, fun h => absurd h (by decide)⟩
  · exact ⟨_, rfl, by decide, by decide, fun _ => rfl, fun h => absurd h (by decide)⟩
  · exact ⟨_, rfl, by decide, by decide, by decide, fun _ => ⟨_, rfl⟩⟩
  · exact ⟨_, rfl, by decide, by decide, by decide, fun _ => ⟨_, rfl⟩⟩
  · exact ⟨_, rfl, by decide, by decide, by decide, fun _ => ⟨_, rfl⟩⟩
/-- one cell is written, the shape stays -/
theorem jWd.upd {b lo : Nat} {D : va_G} {cy : Nat → ClassId} {S S' : jS} {s : State} {H H' : Heap} (hw : jWd b lo D cy S s H) {a : Nat} (ha0 : a ≠ 0) (hka : jK S a ≠ 0) (hsz : H'.size = H.size) (hq : ∀ q, q ≠ jρ b lo a → H'[q]? = H[q]?)
    (hC : jC S' = jC S) (hK : jK S' = jK S) (hL : jLn S' = jLn S) (hI : ∀ c, c ≠ a → jI S' c = jI S c) (hJ : ∀ c, c ≠ a → jJ S' c = jJ S c) (hR : ∀ c, c ≠ a → jR S' c = jR S c)
    (hat : va_at D jcl (jρ b lo a, jE (jρ b lo) cy S' a) H') (hby : jK S a = 14 → ∀ j, (jI S' a j).toInt8.toInt32 = jI S' a j) : jWd b lo D cy S' s H' := by
  obtain ⟨h1, h2, h3, h4, h5, h6⟩ := hw
  refine ⟨h1, by rw [hsz, h2, hC], ?_, by rw [hK]; exact h4, fun c hc0 hkc => ?_, fun c hc j => ?_⟩
  · have e : va_X b (jLn S' 0) (jI S' 0) s H := by rw [hL, hI 0 (Ne.symm ha0)]; exact h3
    exact e.kept (hq b (by rw [jρ_pos ha0]; omega))
  · rw [hK] at hkc ⊢
    rw [hC]
    obtain ⟨g1, g2, g3⟩ := h5 c hc0 hkc
    refine ⟨g1, g2, ?_⟩
    by_cases hca : c = a
    · subst hca; exact hat
    · have e : jE (jρ b lo) cy S' c = jE (jρ b lo) cy S c := by
        unfold jE jEr jFs jFv
        rw [hK, hL, hI c hca, hJ c hca, hR c hca]
      rw [e]
      exact g3.kept (hq _ (fun h => hca (jρ_inj h1 h)))
  · rw [hK] at hc
    by_cases hca : c = a
    · subst hca; exact hby hc j
    · rw [hI c hca]; exact h6 c hc j
/-- one more cell -/
theorem jWd.more {b lo : Nat} {D : va_G} {cy : Nat → ClassId} {S S' : jS} {s : State} {H H' : Heap} (hw : jWd b lo D cy S s H) (hsz : H'.size = H.size + 1) (hq : ∀ q, q < H.size → H'[q]? = H[q]?)
    (hC : jC S' = jC S + 1) (hkn : jK S' (jC S + 1) < 20) (hK : ∀ c, c ≠ jC S + 1 → jK S' c = jK S c) (hL : ∀ c, c ≠ jC S + 1 → jLn S' c = jLn S c) (hI : ∀ c, c ≠ jC S + 1 → jI S' c = jI S c) (hJ : ∀ c, c ≠ jC S + 1 → jJ S' c = jJ S c) (hR : ∀ c, c ≠ jC S + 1 → jR S' c = jR S c)
    (hat : va_at D jcl (H.size, jE (jρ b lo) cy S' (jC S + 1)) H') (hby : ∀ j, (jI S' (jC S + 1) j).toInt8.toInt32 = jI S' (jC S + 1) j) : jWd b lo D cy S' s H' := by
  obtain ⟨h1, h2, h3, h4, h5, h6⟩ := hw
  have hρ : jρ b lo (jC S + 1) = H.size := by rw [jρ_pos (by omega), h2]; omega
  refine ⟨h1, by rw [hsz, h2, hC]; omega, ?_, by rw [hK 0 (by omega)]; exact h4, fun c hc0 hkc => ?_, fun c hc j => ?_⟩
  · have e : va_X b (jLn S' 0) (jI S' 0) s H := by rw [hL 0 (by omega), hI 0 (by omega)]; exact h3
    obtain ⟨scr, hs, -⟩ := h3
    exact e.kept (hq b (Array.getElem?_eq_some_iff.mp hs).1)
  · by_cases hca : c = jC S + 1
    · subst hca
      exact ⟨hkn, by omega, by rw [hρ]; exact hat⟩
    · rw [hK c hca] at hkc ⊢
      obtain ⟨g1, g2, g3⟩ := h5 c hc0 hkc
      refine ⟨g1, by omega, ?_⟩
      have e : jE (jρ b lo) cy S' c = jE (jρ b lo) cy S c := by
        unfold jE jEr jFs jFv
        rw [hK c hca, hL c hca, hI c hca, hJ c hca, hR c hca]
      rw [e]
      refine g3.kept (hq _ ?_)
      show jρ b lo c < H.size
      rw [jρ_pos hc0, h2]; omega
  · by_cases hca : c = jC S + 1
    · subst hca; exact hby j
    · rw [hK c hca] at hc
      rw [hI c hca]; exact h6 c hc j
theorem jup_s {α : Type} (f : Nat → α) (a : Nat) (x : α) : jup f a x a = x := if_pos rfl
theorem jup_n {α : Type} {f : Nat → α} {a c : Nat} {x : α} (h : c ≠ a) : jup f a x c = f c := if_neg h
theorem ju_n {α : Type} {f : Nat → Nat → α} {a k c : Nat} {x : α} (h : c ≠ a) : ju f a k x c = f c := if_neg h
theorem ju_s {α : Type} (f : Nat → Nat → α) (a k : Nat) (x : α) : ju f a k x a = jup (f a) k x := if_pos rfl
/-- the locals as the kit lists them -/
def jA (ρ : Nat → Nat) (lv : List Value) : List (Nat × Value) := (List.range lv.length).filterMap fun i => match lv[i]? with
  | none => none
  | some v => if v = jjunk then none else some (i, jrv ρ v)
theorem jA_mem {ρ : Nat → Nat} {lv : List Value} {q : Nat × Value} : q ∈ jA ρ lv ↔ ∃ v, lv[q.1]? = some v ∧ v ≠ jjunk ∧ q.2 = jrv ρ v := by
  unfold jA
  rw [List.mem_filterMap]
  constructor
  · rintro ⟨i, hi, h⟩
    cases hv : lv[i]? with
    | none => rw [hv] at h; cases h
    | some v =>
      rw [hv] at h
      dsimp only at h
      split at h
      · cases h
      · cases h
        exact ⟨v, hv, by assumption, rfl⟩
  · rintro ⟨v, h1, h2, h3⟩
    refine ⟨q.1, List.mem_range.mpr (List.getElem?_eq_some_iff.mp h1).1, ?_⟩
    rw [h1]
    dsimp only
    rw [if_neg h2, ← h3]
theorem jrv_cat (ρ : Nat → Nat) (v : Value) : (jrv ρ v).category = v.category := by cases v <;> rfl
theorem jclr_get {lv : List Value} {i j : Nat} {w : Value} (h : (jclr lv i)[j]? = some w) (hw : w ≠ jjunk) : lv[j]? = some w ∧ ¬ (j + 1 = i ∧ w.category = 2) := by
  unfold jclr at h
  cases i with
  | zero => exact ⟨h, fun q => by omega⟩
  | succ k =>
    dsimp only at h
    have key : (∀ x, jnth lv k jjunk = x → x.category = 2 → (lv.set k jjunk)[j]? = some w → lv[j]? = some w ∧ ¬ (j + 1 = k + 1 ∧ w.category = 2)) := by
      intro x hx hc hh
      by_cases hjk : k = j
      · subst hjk
        rw [List.getElem?_set_self (by
          by_cases hl : k < lv.length
          · exact hl
          · rw [jnth_out _ _ _ (by omega)] at hx
            subst hx
            exact absurd hc (by decide))] at hh
        cases hh
        exact absurd rfl hw
      · rw [List.getElem?_set_ne hjk] at hh
        exact ⟨hh, fun q => hjk (by omega)⟩
    have none2 : ∀ (hh : lv[j]? = some w), ¬ (jnth lv k jjunk).category = 2 → lv[j]? = some w ∧ ¬ (j + 1 = k + 1 ∧ w.category = 2) := by
      intro hh hn
      refine ⟨hh, fun q => hn ?_⟩
      have e : j = k := by omega
      subst e
      rw [jnth_get _ _ _ _ hh]
      exact q.2
    cases hx : jnth lv k jjunk with
    | long x => rw [hx] at h; exact key _ hx rfl h
    | double x => rw [hx] at h; exact key _ hx rfl h
    | int x => rw [hx] at h; exact none2 h (by rw [hx]; simp [Value.category])
    | float x => rw [hx] at h; exact none2 h (by rw [hx]; simp [Value.category])
    | null => rw [hx] at h; exact none2 h (by rw [hx]; simp [Value.category])
    | ref x => rw [hx] at h; exact none2 h (by rw [hx]; simp [Value.category])
    | retAddr x => rw [hx] at h; exact none2 h (by rw [hx]; simp [Value.category])
theorem jclr_len (lv : List Value) (i : Nat) : (jclr lv i).length = lv.length := by
  unfold jclr
  split
  · rfl
  · split <;> simp
theorem jst1_len (lv : List Value) (i : Nat) (v : Value) : (jst1 lv i v).length = lv.length := by
  unfold jst1
  rw [List.length_set, jclr_len]
theorem jst2_len (lv : List Value) (i : Nat) (v : Value) : (jst2 lv i v).length = lv.length := by
  unfold jst2
  rw [List.length_set, List.length_set, jclr_len]
theorem lv_less {ls : Array Slot} {nL : Nat} {l l' : List (Nat × Value)} (h : lv_has ls nL l) (hs : ∀ q ∈ l', q ∈ l) : lv_has ls nL l' := ⟨h.1, h.2.1, fun q hq => h.2.2 q (hs q hq)⟩
theorem jA_st1 {ρ : Nat → Nat} {lv : List Value} {i : Nat} {v : Value} : ∀ q ∈ jA ρ (jst1 lv i v), q ∈ (i, jrv ρ v) :: (jA ρ lv).filter (fun q => !(q.1 == i) && !(q.1 + 1 == i && q.2.category == 2)) := by
  intro q hq
  obtain ⟨w, h1, h2, h3⟩ := jA_mem.mp hq
  unfold jst1 at h1
  by_cases hj : i = q.1
  · rw [← hj] at h1
    have hl : i < (jclr lv i).length := by
      have := (List.getElem?_eq_some_iff.mp h1).1
      rw [List.length_set] at this
      exact this
    rw [List.getElem?_set_self hl] at h1
    cases h1
    refine List.mem_cons.mpr (Or.inl ?_)
    rw [hj, ← h3]
  · rw [List.getElem?_set_ne hj] at h1
    obtain ⟨g1, g2⟩ := jclr_get h1 h2
    refine List.mem_cons_of_mem _ (List.mem_filter.mpr ⟨jA_mem.mpr ⟨w, g1, h2, h3⟩, ?_⟩)
    rw [h3, jrv_cat]
    simp only [Bool.and_eq_true, Bool.not_eq_true', beq_eq_false_iff_ne, ne_eq, Bool.and_eq_false_iff]
    refine ⟨fun h => hj h.symm, ?_⟩
    by_cases h5 : q.1 + 1 = i
    · exact Or.inr fun h6 => g2 ⟨h5, h6⟩
    · exact Or.inl h5
theorem jA_st2 {ρ : Nat → Nat} {lv : List Value} {i : Nat} {v : Value} : ∀ q ∈ jA ρ (jst2 lv i v), q ∈ (i, jrv ρ v) :: (jA ρ lv).filter (fun q => !(q.1 == i) && (!(q.1 == i + 1) && !(q.1 + 1 == i && q.2.category == 2))) := by
  intro q hq
  obtain ⟨w, h1, h2, h3⟩ := jA_mem.mp hq
  unfold jst2 at h1
  have hne : ¬ i + 1 = q.1 := by
    intro hj
    rw [← hj] at h1
    have hl : i + 1 < ((jclr lv i).set i v).length := by
      have := (List.getElem?_eq_some_iff.mp h1).1
      rw [List.length_set] at this
      exact this
    rw [List.getElem?_set_self hl] at h1
    cases h1
    exact h2 rfl
  rw [List.getElem?_set_ne hne] at h1
  have hm : q ∈ jA ρ (jst1 lv i v) := jA_mem.mpr ⟨w, h1, h2, h3⟩
  rcases List.mem_cons.mp (jA_st1 q hm) with h | h
  · exact List.mem_cons.mpr (Or.inl h)
  · obtain ⟨g1, g2⟩ := List.mem_filter.mp h
    refine List.mem_cons_of_mem _ (List.mem_filter.mpr ⟨g1, ?_⟩)
    simp only [Bool.and_eq_true] at g2 ⊢
    refine ⟨g2.1, ?_, g2.2⟩
    simp only [Bool.not_eq_true', beq_eq_false_iff_ne, ne_eq]
    exact fun h => hne h.symm
theorem jkill_len : ∀ (ks : List Nat) (lv : List Value), (jkill ks lv).length = lv.length
  | [], _ => rfl
  | k :: ks, lv => by rw [jkill, jkill_len ks, List.length_set]
theorem jkill_get : ∀ (ks : List Nat) (lv : List Value) (j : Nat) (w : Value), (jkill ks lv)[j]? = some w → w ≠ jjunk → lv[j]? = some w
  | [], _, _, _, h, _ => h
  | k :: ks, lv, j, w, h, hw => by
    have h1 := jkill_get ks _ j w h hw
    by_cases hk : k = j
    · subst hk
      have hl := (List.getElem?_eq_some_iff.mp h1).1
      rw [List.length_set] at hl
      rw [List.getElem?_set_self hl] at h1
      cases h1
      exact absurd rfl hw
    · rw [List.getElem?_set_ne hk] at h1
      exact h1
theorem jklp_len (kl : List (Nat × List Nat)) (pc : Nat) (lv : List Value) : (jklp kl pc lv).length = lv.length := by
  unfold jklp
  split
  · rfl
  · exact jkill_len _ _
theorem jA_klp {ρ : Nat → Nat} {kl : List (Nat × List Nat)} {pc : Nat} {lv : List Value} : ∀ q ∈ jA ρ (jklp kl pc lv), q ∈ jA ρ lv := by
  intro q hq
  obtain ⟨w, h1, h2, h3⟩ := jA_mem.mp hq
  refine jA_mem.mpr ⟨w, ?_, h2, h3⟩
  unfold jklp at h1
  split at h1
  · exact h1
  · exact jkill_get _ _ _ _ h1 h2

/-! THE MINI MACHINE IS RIGHT: what it comes to, the real one comes to -/
set_option maxRecDepth 100000
set_option maxHeartbeats 4000000
theorem jp1_inv {α : Type} {st : List Value} {k : Int32 → List Value → Option α} {v : α} (h : jp1 st none k = some v) : ∃ x r, st = .int x :: r ∧ k x r = some v := by
  unfold jp1 at h; split at h
  · exact ⟨_, _, rfl, h⟩
  · cases h
theorem jq1_inv {α : Type} {st : List Value} {k : Int64 → List Value → Option α} {v : α} (h : jq1 st none k = some v) : ∃ x r, st = .long x :: r ∧ k x r = some v := by
  unfold jq1 at h; split at h
  · exact ⟨_, _, rfl, h⟩
  · cases h
theorem jpr_inv {α : Type} {st : List Value} {k : Nat → List Value → Option α} {v : α} (h : jpr st none k = some v) : ∃ x r, st = .ref x :: r ∧ k x r = some v := by
  unfold jpr at h; split at h
  · exact ⟨_, _, rfl, h⟩
  · cases h
theorem jpo_inv {α : Type} {st : List Value} {kn : List Value → Option α} {k : Nat → List Value → Option α} {v : α} (h : jpo st none kn k = some v) : (∃ r, st = .null :: r ∧ kn r = some v) ∨ ∃ x r, st = .ref x :: r ∧ k x r = some v := by
  unfold jpo at h; split at h
  · exact Or.inl ⟨_, rfl, h⟩
  · exact Or.inr ⟨_, _, rfl, h⟩
  · cases h
theorem jpv_inv {α : Type} {st : List Value} {k : Value → List Value → Option α} {v : α} (h : jpv st none k = some v) : ∃ x r, st = x :: r ∧ x.category = 1 ∧ k x r = some v := by
  unfold jpv at h; split at h
  · exact ⟨_, _, rfl, rfl, h⟩
  · exact ⟨_, _, rfl, rfl, h⟩
  · exact ⟨_, _, rfl, rfl, h⟩
  · cases h
theorem jp0_inv {α : Type} {st : List Value} {k : Option α} {v : α} (h : jp0 st none k = some v) : st = [] ∧ k = some v := by
  unfold jp0 at h; split at h
  · exact ⟨rfl, h⟩
  · cases h
theorem cond_inv {α : Type} {c : Bool} {a : Option α} {v : α} (h : cond c a none = some v) : c = true ∧ a = some v := by
  cases c
  · cases h
  · exact ⟨rfl, h⟩
theorem ite_inv {α : Type} {c : Prop} {hc : Decidable c} {a : Option α} {v : α} (h : @ite _ c hc a none = some v) : c ∧ a = some v := by
  split at h
  · exact ⟨by assumption, h⟩
  · cases h
theorem jif_inv {α : Type} {c : Prop} {a : Option α} {v : α} (h : jif c a none = some v) : c ∧ a = some v := by
  obtain ⟨h1, h2⟩ := cond_inv h
  exact ⟨jb_t.mp h1, h2⟩
theorem jif_inv' {α : Type} {c : Prop} {a : Option α} {v : α} (h : jif c none a = some v) : ¬ c ∧ a = some v := by
  by_cases hc : c
  · rw [jif_t hc] at h; cases h
  · rw [jif_f hc] at h; exact ⟨hc, h⟩
theorem jmp_inv {α : Type} {pc : Nat} {off : Int} {k : Nat → Option α} {v : α} (h : jmp pc off none k = some v) : ∃ t : Nat, (pc : Int) + off = (t : Int) ∧ k t = some v := by
  obtain ⟨h1, h2⟩ := cond_inv h
  exact ⟨jt pc off, of_decide_eq_true h1, h2⟩
theorem jget' {ρ : Nat → Nat} {ls : Array Slot} {nL n : Nat} {lv : List Value} {v : Value} (hl : lv_has ls nL (jA ρ lv)) (h : jnth lv n jjunk = v) (hv : v ≠ jjunk) : ls[n]? = some (.val (jrv ρ v)) := by
  have h1 := jnth_in jjunk lv n (by rw [h]; exact hv)
  rw [h] at h1
  exact hl.2.2 (n, jrv ρ v) (jA_mem.mpr ⟨v, h1, hv, rfl⟩)
theorem jldI {α : Type} {lv : List Value} {n : Nat} {k : Int32 → Option α} {v : α} (h : jld lv n none k (fun _ => none) none (fun _ => none) = some v) : ∃ x, jnth lv n jjunk = .int x ∧ k x = some v := by
  unfold jld at h; split at h <;> first | exact ⟨_, by assumption, h⟩ | cases h
theorem jldJ {α : Type} {lv : List Value} {n : Nat} {k : Int64 → Option α} {v : α} (h : jld lv n none (fun _ => none) k none (fun _ => none) = some v) : ∃ x, jnth lv n jjunk = .long x ∧ k x = some v := by
  unfold jld at h; split at h <;> first | exact ⟨_, by assumption, h⟩ | cases h
theorem jldR {α : Type} {lv : List Value} {n : Nat} {kn : Option α} {k : Nat → Option α} {v : α} (h : jld lv n none (fun _ => none) (fun _ => none) kn k = some v) : (jnth lv n jjunk = .null ∧ kn = some v) ∨ ∃ x, jnth lv n jjunk = .ref x ∧ k x = some v := by
  unfold jld at h
  split at h
  · cases h
  · cases h
  · exact Or.inl ⟨by assumption, h⟩
  · exact Or.inr ⟨_, by assumption, h⟩
  · cases h
theorem jws_in {ci : Nat} (hc : ci < 13) : ∀ w ∈ u_ws (jow ci) (jT ci) (jN ci), w ∈ jgd := by
  intro w hw
  obtain ⟨k, hk1, hk⟩ := List.mem_map.mp hw
  rw [← hk]
  refine jgd_at (jws_all ci hc k (List.mem_range.mp hk1)) ?_
  unfold u_lay
  split <;> rfl
def jQc (b lo : Nat) (D : va_G) (cy : Nat → ClassId) (out : Option Value × jS) : Array Value → State → Outcome → State → Prop := fun _ st o t => o = .returned (out.1.map (jrv (jρ b lo))) ∧ jWd b lo D cy out.2 t t.heap ∧ va_F (fun q => lo ≤ q) st t
def jCx (lo : Nat) (D : va_G) (cy : Nat → ClassId) (mi : Nat) (p : Program) (s : State) (m : MethodId) (args : Array Value) (meth : Method) (c : Code) : Prop :=
  p.tables.exec = Jvm.exec ∧ c.code = jby mi ∧ meth.sig.returnType = jrt mi ∧ c.maxLocals = (jmt mi).2.1 ∧ s.vm.findClass (jow (jmt mi).1) = some m.cls ∧ (∀ w ∈ jgd, w.before args s = true) ∧ meth.locks = false ∧ (jini mi = true → meth.name = "<init>") ∧ jKn D cy s ∧ lo ≤ s.heap.size ∧ mi < 282
def jAt (b lo : Nat) (D : va_G) (cy : Nat → ClassId) (mi : Nat) (p : Program) (l : Launch) (e : Env) (R : Room) (s : State) (m : MethodId) (args : Array Value) (below : List Frame) (meth : Method) (c : Code) (mc ms : Nat) (out : Option Value × jS) (pc : Nat) (lv st : List Value) (S : jS) : Prop :=
  (jC S ≤ jC out.2 ∧ jQ S ≤ jQ out.2) ∧ ∀ (H : Heap) (locs : List Loc) (ls : Array Slot) (cells slots : Nat), jWd b lo D cy S s H → lv_has ls (jmt mi).2.1 (jA (jρ b lo) lv) → va_S (fun q => lo ≤ q) s.heap H locs → cells + (jC out.2 - jC S) = mc → slots + (jQ out.2 - jQ S) = ms →
    W p l e R s m args below meth c H locs cells slots (MQ below (jQc b lo D cy out) args s mc ms (fun q => lo ≤ q)) (F0 m pc ls (st.map (jrv (jρ b lo))))
section JS
variable {b lo : Nat} {D : va_G} {cy : Nat → ClassId} {mi : Nat} {p : Program} {l : Launch} {e : Env} {R : Room} {s : State} {m : MethodId} {args : Array Value} {below : List Frame} {meth : Method} {c : Code} {mc ms : Nat} {out : Option Value × jS} {pc pc' : Nat} {lv lv' st st' : List Value} {S S' : jS} {kl : List (Nat × List Nat)}
theorem jAt.pure (hk : jAt b lo D cy mi p l e R s m args below meth c mc ms out pc' (jklp kl pc' lv) st' S) (row : ∀ (H : Heap) (locs : List Loc) (ls : Array Slot) (cells slots : Nat) (Q : State → Prop), jWd b lo D cy S s H → lv_has ls (jmt mi).2.1 (jA (jρ b lo) lv) → W p l e R s m args below meth c H locs cells slots Q (F0 m pc' ls (st'.map (jrv (jρ b lo)))) → W p l e R s m args below meth c H locs cells slots Q (F0 m pc ls (st.map (jrv (jρ b lo))))) : jAt b lo D cy mi p l e R s m args below meth c mc ms out pc lv st S :=
  ⟨hk.1, fun H locs ls cells slots hw hl hS h1 h2 => row H locs ls cells slots _ hw hl (hk.2 H locs ls cells slots hw (lv_less hl jA_klp) hS h1 h2)⟩
theorem jAt.store (hk : jAt b lo D cy mi p l e R s m args below meth c mc ms out pc' (jklp kl pc' lv') st' S) (row : ∀ (H : Heap) (locs : List Loc) (ls : Array Slot) (cells slots : Nat) (Q : State → Prop), lv_has ls (jmt mi).2.1 (jA (jρ b lo) lv) → (∀ ls' : Array Slot, lv_has ls' (jmt mi).2.1 (jA (jρ b lo) lv') → W p l e R s m args below meth c H locs cells slots Q (F0 m pc' ls' (st'.map (jrv (jρ b lo))))) → W p l e R s m args below meth c H locs cells slots Q (F0 m pc ls (st.map (jrv (jρ b lo))))) : jAt b lo D cy mi p l e R s m args below meth c mc ms out pc lv st S :=
  ⟨hk.1, fun H locs ls cells slots hw hl hS h1 h2 => row H locs ls cells slots _ hl (fun ls' hl' => hk.2 H locs ls' cells slots hw (lv_less hl' jA_klp) hS h1 h2)⟩
theorem jAt.heap (hk : jAt b lo D cy mi p l e R s m args below meth c mc ms out pc' (jklp kl pc' lv) st' S') (hC : jC S' = jC S) (hQ : jQ S' = jQ S) (row : ∀ (H : Heap) (locs : List Loc) (ls : Array Slot) (cells slots : Nat) (Q : State → Prop), jWd b lo D cy S s H → ls.size = (jmt mi).2.1 → (∀ (H' : Heap) (locs' : List Loc), jWd b lo D cy S' s H' → (∀ q, q < lo → H'[q]? = H[q]?) → (∀ x ∈ locs', x ∈ locs ∨ lo ≤ x.base) → W p l e R s m args below meth c H' locs' cells slots Q (F0 m pc' ls (st'.map (jrv (jρ b lo))))) → W p l e R s m args below meth c H locs cells slots Q (F0 m pc ls (st.map (jrv (jρ b lo))))) : jAt b lo D cy mi p l e R s m args below meth c mc ms out pc lv st S :=
  ⟨by rw [← hC, ← hQ]; exact hk.1, fun H locs ls cells slots hw hl hS h1 h2 => row H locs ls cells slots _ hw hl.1 (fun H' locs' hw' hq hloc => hk.2 H' locs' ls cells slots hw' (lv_less hl jA_klp) ⟨Nat.le_trans hS.1 (by rw [hw.2.1, hw'.2.1, hC]; exact Nat.le_refl _), fun q hq1 hq2 => (hq q (Nat.not_le.mp hq2)).trans (hS.2.1 q hq1 hq2), fun x hx => (hloc x hx).elim (hS.2.2 x) id⟩ (by rw [hC]; exact h1) (by rw [hQ]; exact h2))⟩
theorem jAt.alloc {n : Nat} (hmc : mc ≤ R.cells) (hms : ms ≤ R.slots) (hk : jAt b lo D cy mi p l e R s m args below meth c mc ms out pc' (jklp kl pc' lv) st' S') (hC : jC S' = jC S + 1) (hQ : jQ S' = jQ S + n) (row : ∀ (H : Heap) (locs : List Loc) (ls : Array Slot) (cells slots : Nat) (Q : State → Prop), jWd b lo D cy S s H → cells + 1 ≤ R.cells → slots + n ≤ R.slots → (∀ H' : Heap, jWd b lo D cy S' s H' → (∀ q, q < H.size → H'[q]? = H[q]?) → W p l e R s m args below meth c H' locs (cells + 1) (slots + n) Q (F0 m pc' ls (st'.map (jrv (jρ b lo))))) → W p l e R s m args below meth c H locs cells slots Q (F0 m pc ls (st.map (jrv (jρ b lo))))) : jAt b lo D cy mi p l e R s m args below meth c mc ms out pc lv st S := by
  obtain ⟨⟨k1, k2⟩, k3⟩ := hk
  refine ⟨⟨by omega, by omega⟩, fun H locs ls cells slots hw hl hS h1 h2 => row H locs ls cells slots _ hw (by omega) (by omega) (fun H' hw' hq => k3 H' locs ls (cells + 1) (slots + n) hw' (lv_less hl jA_klp) ⟨Nat.le_trans hS.1 (by rw [hw.2.1, hw'.2.1, hC]; omega), fun q hq1 hq2 => (hq q (Nat.lt_of_lt_of_le hq1 hS.1)).trans (hS.2.1 q hq1 hq2), hS.2.2⟩ (by omega) (by omega))⟩
end JS

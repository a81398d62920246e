/-! TOP: the script stays -/
set_option maxRecDepth 100000
set_option maxHeartbeats 8000000
/-- the script is not written -/
def jz (S S' : jS) : Prop := jK S 0 = 20 → jK S' 0 = 20 ∧ jI S' 0 = jI S 0
theorem jz_r (S : jS) : jz S S := fun h => ⟨h, rfl⟩
theorem jz_t {S S1 S2 : jS} (h : jz S S1) (h' : jz S1 S2) : jz S S2 := fun h0 => ⟨(h' (h h0).1).1, ((h' (h h0).1).2).trans (h h0).2⟩
theorem jz_I {S : jS} {a j : Nat} {x : Int32} (h : jK S a ≠ 20) : jz S (jsI S a j x) := fun h0 => ⟨h0, by
  have h1 : (0 : Nat) ≠ a := fun e => h (by rw [← e]; exact h0)
  show ju S.2.1 a j x 0 = S.2.1 0
  exact ju_n h1⟩
theorem jz_J {S : jS} {a j : Nat} {x : Int64} : jz S (jsJ S a j x) := fun h0 => ⟨h0, rfl⟩
theorem jz_R {S : jS} {a j : Nat} {x : Option Nat} : jz S (jsR S a j x) := fun h0 => ⟨h0, rfl⟩
theorem jz_al {S : jS} {kd ln n : Nat} : jz S (jal S kd ln n) := fun h0 => by
  have h1 : (0 : Nat) ≠ jC S + 1 := by omega
  refine ⟨?_, ?_⟩
  · show jup S.1.1 (jC S + 1) kd 0 = 20
    rw [jup_n h1]
    exact h0
  · show jup S.2.1 (jC S + 1) (fun _ => 0) 0 = S.2.1 0
    exact jup_n h1
theorem jz_cp {S : jS} {a sp b dp n : Nat} (h : jK S b ≠ 20) : jz S (jcp S a sp b dp n) := fun h0 => ⟨h0, by
  have h1 : (0 : Nat) ≠ b := fun e => h (by rw [← e]; exact h0)
  show jup S.2.1 b (va_cpy (S.2.1 a) (S.2.1 b) sp dp n) 0 = S.2.1 0
  exact jup_n h1⟩
theorem jz_cq {S : jS} {a sp b dp n : Nat} : jz S (jcq S a sp b dp n) := fun h0 => ⟨h0, rfl⟩
theorem jz_fd {own n ci k nest pl : Nat} (h : jfld own n = some (ci, k, nest, pl)) : ci < 13 := by
  by_cases ho : own < 16
  · exact (jfd_spec ho h).1
  · exfalso
    have e : jnth jfds own [] = [] := jnth_out _ _ _ (Nat.le_trans (by decide) (Nat.le_of_not_lt ho))
    unfold jfld at h
    rw [e] at h
    cases h
section JI
variable {α : Type} {P : α → Prop} {bad : α}
theorem jite_i2 {c : Prop} {h : Decidable c} {a b : α} (h1 : c → P a) (h2 : P b) : P (@ite _ c h a b) := by split; exact h1 ‹_›; exact h2
theorem jput_i2 {own n : Nat} {ini : Bool} {S : jS} {st : List Value} {k : jS → List Value → α} (hb : P bad) (hk : ∀ S' r, jz S S' → P (k S' r)) : P (jput own n ini S st bad k) := by
  unfold jput
  split
  · exact hb
  · rename_i ci j nest pl hf
    have hc := jz_fd hf
    refine jcond_ind hb ?_
    split
    · exact jp1_ind hb fun x r => jpr_ind hb fun a r => jite_i2 (fun e => hk _ _ (jz_I (by omega))) hb
    · exact jq1_ind hb fun x r => jpr_ind hb fun a r => jite_i2 (fun e => hk _ _ jz_J) hb
    · exact jp1_ind hb fun x r => jpr_ind hb fun a r => jite_i2 (fun e => jif_ind (hk _ _ (jz_I (by omega))) hb) hb
    · exact jpo_ind hb (fun r => jpr_ind hb fun a r => jite_i2 (fun e => hk _ _ jz_R) hb) (fun x r => jpr_ind hb fun a r => jite_i2 (fun e => hk _ _ jz_R) hb)
theorem jstep_i2 {own : Nat} {ini : Bool} {rt : Nat} {i : Instr} {pc : Nat} {lv st : List Value} {S : jS} {kn : Nat → List Value → List Value → jS → α} {kc : Nat → List Value → List Value → α} {kr : Option Value → jS → α} (hb : P bad) (hn : ∀ pc' lv' st' S', jz S S' → P (kn pc' lv' st' S')) (hc : ∀ a b c, P (kc a b c)) (hr : ∀ v, P (kr v S)) : P (jstep own ini rt i pc lv st S bad kn kc kr) := by
  have h0 : ∀ pc' lv' st', P (kn pc' lv' st' S) := fun _ _ _ => hn _ _ _ _ (jz_r S)
  unfold jstep
  split <;> repeat' first
    | exact hb
    | exact h0 _ _ _
    | exact hc _ _ _
    | exact hr _
    | exact hn _ _ _ _ jz_al
    | exact hn _ _ _ _ jz_R
    | exact hn _ _ _ _ jz_J
    | exact hn _ _ _ _ (jz_I (by omega))
    | exact hn _ _ _ _ (jz_cp (by omega))
    | exact hn _ _ _ _ jz_cq
    | exact jget_ind hb fun _ _ => h0 _ _ _
    | exact jput_i2 hb fun _ _ h => hn _ _ _ _ h
    | exact jtab_ind (jmp_ind hb fun _ => h0 _ _ _) (fun _ => jmp_ind hb fun _ => h0 _ _ _) _ _
    | exact jlok_ind (jmp_ind hb fun _ => h0 _ _ _) (fun _ => jmp_ind hb fun _ => h0 _ _ _) _
    | refine jld_ind hb (fun _ => ?_) (fun _ => ?_) ?_ (fun _ => ?_)
    | refine jp1_ind hb (fun _ _ => ?_)
    | refine jq1_ind hb (fun _ _ => ?_)
    | refine jpr_ind hb (fun _ _ => ?_)
    | refine jpv_ind hb (fun _ _ => ?_)
    | refine jpo_ind hb (fun _ => ?_) (fun _ _ => ?_)
    | refine jp0_ind hb ?_
    | refine jo_ind ?_ (fun _ => ?_)
    | refine jmp_ind hb (fun _ => ?_)
    | refine jif_ind ?_ ?_
    | refine jcond_ind ?_ ?_
    | refine jite_i2 (fun _ => ?_) ?_
    | split
end JI
theorem jrun_z (n : Nat) : ∀ (d mi pc : Nat) (lv st : List Value) (S : jS) (out : Option Value × jS), jrun n d mi pc lv st S = some out → jz S out.2 := by
  induction n with
  | zero => intro d mi pc lv st S out h; rw [jrun.eq_def] at h; cases h
  | succ n ih =>
    intro d mi pc lv st S out h
    rw [jrun_succ] at h
    unfold jnx at h
    cases hq : jat' mi pc with
    | none => rw [hq] at h; cases h
    | some q =>
      rw [hq] at h
      dsimp only at h
      revert h
      refine jstep_i2 (P := fun o : jO => o = some out → jz S out.2) (fun h => by cases h) (fun pc' lv' st' S' hS h => ?_) (fun a b c h => ?_) (fun v h => by cases h; exact jz_r S)
      · exact jz_t hS (ih _ _ _ _ _ _ _ h)
      · obtain ⟨w, S1, hr, h⟩ := jret_inv h
        obtain ⟨d', rfl, hr⟩ := jcw_inv hr
        exact jz_t (ih _ _ _ _ _ _ _ hr) (ih _ _ _ _ _ _ _ h)
theorem jcall_z {d m : Nat} {args : List Value} {S : jS} {out : Option Value × jS} (h : jcall d m args S = some out) : jz S out.2 := by
  obtain ⟨d', rfl, h⟩ := jcw_inv h
  obtain ⟨n, h⟩ := jval_iff.mp h
  exact jrun_z n _ _ _ _ _ _ _ h

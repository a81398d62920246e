/-! TOP: a setup is left, the reference -/
set_option maxRecDepth 100000
theorem rK_m {I I' : Nat → Nat → Int32} {i i' : Nat} {z : zS} (h : rK I i z) (hM : z.2.2.1 ≤ 120) (he : ∀ j, j < 251 → I' 168 (251 * i' + j) = I 168 (251 * i + j)) : rK I' i' z := by
  obtain ⟨h1, h2, h3, h4, h5⟩ := h
  refine ⟨fun k hk => ?_, fun j hj => by rw [Nat.add_assoc, he _ (by omega), ← Nat.add_assoc]; exact h2 j hj, by rw [he _ (by omega)]; exact h3, by rw [he _ (by omega)]; exact h4, by rw [he _ (by omega)]; exact h5⟩
  exact mR_cg (h1 k hk) (fun c hc => he _ (by omega))
/-- what the reference holds, the program as it stands -/
def rJ (q : Nat → Nat → Nat) (T : zT) (I : Nat → Nat → Int32) : Prop := (I 117 50 = nI T.1 ∧ ∀ i, i < T.1 → I 147 i = nI (T.2.1 i)) ∧ (∀ j, j < 3 → I 118 j = T.2.2.1 j) ∧ rB q T.2.2.2.1.1 T.2.2.2.1.2.2.2.1 T.2.2.2.1.2.2.2.2 I ∧ (I 117 87 = nI T.2.2.2.1.2.2.1 ∧ ∀ i, i < T.2.2.2.1.2.2.1 → I 167 i = nI (T.2.2.2.1.2.1 i)) ∧ (I 117 88 = nI T.2.2.2.2.1 ∧ ∀ i, i < T.2.2.2.2.1 → rK I i (T.2.2.2.2.2.1 i)) ∧ uT T.2.2.2.2.2.2.1 159 158 I ∧ I 117 78 = nI T.2.2.2.2.2.2.2
theorem rJ_I {T : zT} {I : Nat → Nat → Int32} (h : rI T I) : rJ (zq T.2.2.2.1) T I := by
  obtain ⟨h1, h3, h4, h5, h7, h8, h10, h11⟩ := h
  exact ⟨h1, h3, h4, h5, h8, h10, h11⟩
section RL
variable (d L : Nat) (g : jG) {J : Nat → Nat → Int64}
theorem r_sh : ∀ f x (I : Nat → Nat → Int32), x + f = 1255 → ∃ I', (∀ a j, a ≠ 168 → ¬ (a = 117 ∧ j = 88) → I' a j = I a j) ∧ I' 117 88 = I 117 88 - 1 ∧ (∀ j, I' 168 j = if x ≤ j ∧ j < 1255 then I 168 (j + 251) else I 168 j) ∧ jval d 251 11 [.ref 117, .int (nI x), jjunk] [] (jGs L g, I, J) = jval d 251 50 [.ref 117, jjunk, jjunk] [] (jGs L g, I', J) := by
  intro f
  induction f with
  | zero =>
    intro x I hx
    refine ⟨ju I 117 88 (I 117 88 - 1), fun a j h1 h2 => ju_ne (by omega), zu_at _ _ _ _, fun j => by rw [if_neg (by omega), zu_a (by omega)], ?_⟩
    rw [e_TextValuesModel_leavesState_11, jif_t (show (1255 : Int32) ≤ nI x from nI_le (a := 1255) (by omega) (by omega))]
  | succ f ih =>
    intro x I hx
    obtain ⟨I', k1, k2, k3, k4⟩ := ih (x + 1) (ju I 168 x (I 168 (x + 251))) (by omega)
    refine ⟨I', fun a j h1 h2 => by rw [k1 a j h1 h2, zu_a h1], by rw [k2, zu_a (by omega)], fun j => ?_, ?_⟩
    · rw [k3]
      by_cases e : j = x
      · rw [if_neg (by omega), if_pos (by omega), e, zu_at]
      · by_cases e2 : x + 1 ≤ j ∧ j < 1255
        · rw [if_pos e2, if_pos (by omega), zu_k (by omega)]
        · rw [if_neg e2, if_neg (by omega), zu_k e]
    · rw [e_TextValuesModel_leavesState_11, jif_f (show ¬ (1255 : Int32) ≤ nI x from nI_ge (b := 1255) (by omega) (by omega)), show nI x + (251 : Int32) = nI (x + 251) from nI_add x 251, jin_nI (by omega) (by omega), cond_true, jin_nI (by omega) (by omega), cond_true, nI_c (by omega), nI_c (by omega), nI_1]
      exact k4
theorem r_c61 {b : Nat} (hb : b ≤ 1255) : ∀ f y (I : Nat → Nat → Int32), y + f = 128 → ∃ I', (∀ a j, a ≠ 168 → I' a j = I a j) ∧ (∀ j, I' 168 j = if b + y ≤ j ∧ j < b + 128 then I 119 (j - b) else I 168 j) ∧ jval d 251 61 [.ref 117, .int (nI b), .int (nI y)] [] (jGs L g, I, J) = jval d 251 90 [.ref 117, .int (nI b), .int (0 : Int32)] [] (jGs L g, I', J) := by
  intro f
  induction f with
  | zero =>
    intro y I hx
    refine ⟨I, fun _ _ _ => rfl, fun j => by rw [if_neg (by omega)], ?_⟩
    rw [e_TextValuesModel_leavesState_61, jif_t (show (128 : Int32) ≤ nI y from nI_le (a := 128) (by omega) (by omega))]
  | succ f ih =>
    intro y I hx
    obtain ⟨I', k1, k3, k4⟩ := ih (y + 1) (ju I 168 (b + y) (I 119 y)) (by omega)
    refine ⟨I', fun a j h1 => by rw [k1 a j h1, zu_a h1], fun j => ?_, ?_⟩
    · rw [k3, zu_a (by omega)]
      by_cases e : j = b + y
      · rw [if_neg (by omega), if_pos (by omega), e, zu_at, show b + y - b = y by omega]
      · by_cases e2 : b + (y + 1) ≤ j ∧ j < b + 128
        · rw [if_pos e2, if_pos (by omega)]
        · rw [if_neg e2, if_neg (by omega), zu_k e]
    · rw [e_TextValuesModel_leavesState_61, jif_f (show ¬ (128 : Int32) ≤ nI y from nI_ge (b := 128) (by omega) (by omega)), nI_add, jin_nI (by omega) (by omega), cond_true, jin_nI (by omega) (by omega), cond_true, nI_c (by omega), nI_c (by omega), nI_1]
      exact k4
theorem r_c90 {b : Nat} (hb : b ≤ 1255) : ∀ f y (I : Nat → Nat → Int32), y + f = 120 → ∃ I', (∀ a j, a ≠ 168 → ¬ (a = 117 ∧ (j = 88 ∨ j = 60)) → I' a j = I a j) ∧ I' 117 88 = I 117 88 + 1 ∧ I' 117 60 = 0 ∧ (∀ j, I' 168 j = if j = b + 248 then I 117 87 else if j = b + 249 then I 117 58 else if j = b + 250 then I 117 59 else if b + 128 + y ≤ j ∧ j < b + 248 then I 167 (j - b - 128) else I 168 j) ∧ jval d 251 90 [.ref 117, .int (nI b), .int (nI y)] [] (jGs L g, I, J) = some (none, (jGs L g, I', J)) := by
  intro f
  induction f with
  | zero =>
    intro y I hx
    refine ⟨ju (ju (ju (ju (ju I 168 (b + 248) (I 117 87)) 168 (b + 249) (I 117 58)) 168 (b + 250) (I 117 59)) 117 88 (I 117 88 + 1)) 117 60 0, fun a j h1 h2 => by rw [ju_ne (by omega), ju_ne (by omega), ju_ne (by omega), ju_ne (by omega), ju_ne (by omega)], by rw [zu_k (by omega), zu_at], zu_at _ _ _ _, fun j => ?_, ?_⟩
    · rw [zu_a (by omega), zu_a (by omega)]
      by_cases e0 : j = b + 248
      · rw [if_pos e0, e0, zu_k (by omega), zu_k (by omega), zu_at]
      · rw [if_neg e0]
        by_cases e1 : j = b + 249
        · rw [if_pos e1, e1, zu_k (by omega), zu_at]
        · rw [if_neg e1]
          by_cases e2 : j = b + 250
          · rw [if_pos e2, e2, zu_at]
          · rw [if_neg e2, if_neg (by omega), zu_k e2, zu_k e1, zu_k e0]
    · rw [e_TextValuesModel_leavesState_90, jif_t (show (120 : Int32) ≤ nI y from nI_le (a := 120) (by omega) (by omega)), show nI b + (248 : Int32) = nI (b + 248) from nI_add b 248, show nI b + (249 : Int32) = nI (b + 249) from nI_add b 249, show nI b + (250 : Int32) = nI (b + 250) from nI_add b 250, jin_nI (by omega) (by omega), cond_true, jin_nI (by omega) (by omega), cond_true, jin_nI (by omega) (by omega), cond_true, jif_t (Or.inl rfl), nI_c (by omega), nI_c (by omega), nI_c (by omega)]
  | succ f ih =>
    intro y I hx
    obtain ⟨I', k1, k2, k3, k4, k5⟩ := ih (y + 1) (ju I 168 (b + 128 + y) (I 167 y)) (by omega)
    refine ⟨I', fun a j h1 h2 => by rw [k1 a j h1 h2, zu_a h1], by rw [k2, zu_a (by omega)], k3, fun j => ?_, ?_⟩
    · rw [k4, zu_a (by omega), zu_a (by omega), zu_a (by omega), zu_a (by omega)]
      by_cases e0 : j = b + 248
      · rw [if_pos e0, if_pos e0]
      · rw [if_neg e0, if_neg e0]
        by_cases e1 : j = b + 249
        · rw [if_pos e1, if_pos e1]
        · rw [if_neg e1, if_neg e1]
          by_cases e2 : j = b + 250
          · rw [if_pos e2, if_pos e2]
          · rw [if_neg e2, if_neg e2]
            by_cases e : j = b + 128 + y
            · rw [if_neg (by omega), if_pos (by omega), e, zu_at, show b + 128 + y - b - 128 = y by omega]
            · by_cases e3 : b + 128 + (y + 1) ≤ j ∧ j < b + 248
              · rw [if_pos e3, if_pos (by omega)]
              · rw [if_neg e3, if_neg (by omega), zu_k e]
    · rw [e_TextValuesModel_leavesState_90, jif_f (show ¬ (120 : Int32) ≤ nI y from nI_ge (b := 120) (by omega) (by omega)), jin_nI (by omega) (by omega), cond_true, show nI b + (128 : Int32) = nI (b + 128) from nI_add b 128, nI_add, jin_nI (by omega) (by omega), cond_true, nI_c (by omega), nI_c (by omega), nI_1]
      exact k5
theorem r_leaveQ {q : Nat → Nat → Nat} {T : zT} {I : Nat → Nat → Int32} (h : rJ q T I) (hw : zWf T) : ∃ I', rJ q (tChg T T.2.2.2.1) I' ∧ I' 117 60 = 0 ∧ (∀ a j, a ≠ 168 → ¬ (a = 117 ∧ (j = 88 ∨ j = 60)) → I' a j = I a j) ∧ jcall (d + 1) 251 [.ref 117] (jGs L g, I, J) = some (none, (jGs L g, I', J)) := by
  have hK6 := hw.2.2.1
  obtain ⟨⟨h1, h2⟩, h3, h4, ⟨h5, h6⟩, ⟨h8, h9⟩, h10, h11⟩ := h
  have key : ∃ I1, (∀ a j, a ≠ 168 → ¬ (a = 117 ∧ j = 88) → I1 a j = I a j) ∧ I1 117 88 = nI (if T.2.2.2.2.1 < 6 then T.2.2.2.2.1 else 5) ∧ (∀ i, i < (if T.2.2.2.2.1 < 6 then T.2.2.2.2.1 else 5) → rK I1 i ((tChg T T.2.2.2.1).2.2.2.2.2.1 i)) ∧ jcall (d + 1) 251 [.ref 117] (jGs L g, I, J) = jval d 251 50 [.ref 117, jjunk, jjunk] [] (jGs L g, I1, J) := by
    by_cases hK : T.2.2.2.2.1 < 6
    · refine ⟨I, fun _ _ _ _ => rfl, by rw [if_pos hK]; exact h8, fun i hi => ?_, ?_⟩
      · rw [if_pos hK] at hi
        show rK I i (if T.2.2.2.2.1 < 6 then (if i = T.2.2.2.2.1 then T.2.2.2.1 else T.2.2.2.2.2.1 i) else if i = 5 then T.2.2.2.1 else T.2.2.2.2.2.1 (i + 1))
        rw [if_pos hK, if_neg (by omega)]
        exact h9 i hi
      · rw [c_TextValuesModel_leavesState, e_TextValuesModel_leavesState_0, h8, jif_f (show ¬ nI T.2.2.2.2.1 = (6 : Int32) from fun e => by have := (nI_eq (b := 6) (by omega) (by omega)).mp e; omega)]
    · obtain ⟨I1, k1, k2, k3, k4⟩ := r_sh d L g (J := J) 1255 0 I (by omega)
      have eK : T.2.2.2.2.1 = 6 := by omega
      refine ⟨I1, k1, by rw [k2, h8, eK]; rfl, fun i hi => ?_, ?_⟩
      · rw [if_neg hK] at hi
        show rK I1 i (if T.2.2.2.2.1 < 6 then (if i = T.2.2.2.2.1 then T.2.2.2.1 else T.2.2.2.2.2.1 i) else if i = 5 then T.2.2.2.1 else T.2.2.2.2.2.1 (i + 1))
        rw [if_neg hK, if_neg (by omega)]
        exact rK_m (h9 (i + 1) (by omega)) (hw.2.2.2.1 (i + 1) (by omega)).2.1.1 (fun j hj => by rw [k3, if_pos (by omega), show 251 * i + j + 251 = 251 * (i + 1) + j by omega])
      · rw [c_TextValuesModel_leavesState, e_TextValuesModel_leavesState_0, h8, eK, jif_t (by decide)]
        exact k4
  obtain ⟨I1, k1, k2, k3, k4⟩ := key
  generalize hKK : (if T.2.2.2.2.1 < 6 then T.2.2.2.2.1 else 5) = K1 at k2 k3
  have hK1 : K1 ≤ 5 := by rw [← hKK]; split <;> omega
  obtain ⟨I2, a1, a2, a3⟩ := r_c61 d L g (J := J) (b := 251 * K1) (by omega) 128 0 I1 (by omega)
  obtain ⟨I3, b1, b2, b3, b4, b5⟩ := r_c90 d L g (J := J) (b := 251 * K1) (by omega) 120 0 I2 (by omega)
  have F : ∀ a j, a ≠ 168 → ¬ (a = 117 ∧ (j = 88 ∨ j = 60)) → I3 a j = I a j := fun a j y1 y2 => by rw [b1 a j y1 y2, a1 a j y1, k1 a j y1 (by omega)]
  have P2 : ∀ a j, a ≠ 168 → ¬ (a = 117 ∧ j = 88) → I2 a j = I a j := fun a j y1 y2 => by rw [a1 a j y1, k1 a j y1 y2]
  have ezt : ∀ i, i < K1 → (tChg T T.2.2.2.1).2.2.2.2.2.1 i = T.2.2.2.1 ∨ zOk ((tChg T T.2.2.2.1).2.2.2.2.2.1 i) := fun i hi => by
    refine Or.inr ((tChg_W hw hw.2.1).2.2.2.1 i ?_)
    show i < (if T.2.2.2.2.1 < 6 then T.2.2.2.2.1 + 1 else 6)
    rw [← hKK] at hi
    by_cases hK : T.2.2.2.2.1 < 6
    · rw [if_pos hK] at hi ⊢; omega
    · rw [if_neg hK] at hi ⊢; omega
  refine ⟨I3, ⟨⟨by rw [F _ _ (by omega) (by omega)]; exact h1, fun i hi => by rw [F _ _ (by omega) (by omega)]; exact h2 i hi⟩, fun j hj => by rw [F _ _ (by omega) (by omega)]; exact h3 j hj, rB_x h4 (fun a j hx => F a j (by omega) (by omega)) (fun y hy => by rw [F _ _ (by omega) (by omega)]; exact h4.2.2.1 y hy), ⟨by rw [F _ _ (by omega) (by omega)]; exact h5, fun i hi => by rw [F _ _ (by omega) (by omega)]; exact h6 i hi⟩, ⟨?_, fun i hi => ?_⟩, uT_cg h10 (fun j => F _ _ (by omega) (by omega)) (fun j => F _ _ (by omega) (by omega)), by rw [F _ _ (by omega) (by omega)]; exact h11⟩, b3, F, ?_⟩
  · show I3 117 88 = nI (if T.2.2.2.2.1 < 6 then T.2.2.2.2.1 + 1 else 6)
    rw [b2, a1 _ _ (by omega), k2, nI_1, ← hKK]
    by_cases hK : T.2.2.2.2.1 < 6
    · rw [if_pos hK, if_pos hK]
    · rw [if_neg hK, if_neg hK]
  · have hi' : i < (if T.2.2.2.2.1 < 6 then T.2.2.2.2.1 + 1 else 6) := hi
    have hi2 : i ≤ K1 := by
      rw [← hKK]
      by_cases hK : T.2.2.2.2.1 < 6
      · rw [if_pos hK] at hi' ⊢; omega
      · rw [if_neg hK] at hi' ⊢; omega
    by_cases e : i = K1
    · have ez : (tChg T T.2.2.2.1).2.2.2.2.2.1 i = T.2.2.2.1 := by
        show (if T.2.2.2.2.1 < 6 then (if i = T.2.2.2.2.1 then T.2.2.2.1 else T.2.2.2.2.2.1 i) else if i = 5 then T.2.2.2.1 else T.2.2.2.2.2.1 (i + 1)) = _
        by_cases hK : T.2.2.2.2.1 < 6
        · rw [if_pos hK] at hKK ⊢; rw [if_pos (by omega)]
        · rw [if_neg hK] at hKK ⊢; rw [if_pos (by omega)]
      have hM := hw.2.1.2.1.1
      rw [ez, e]
      refine ⟨fun k hk => mR_cg (h4.2.1 k hk).1 (fun c hc => ?_), fun j hj => ?_, ?_, ?_, ?_⟩
      · show I3 168 (251 * K1 + (32 * k + c)) = _
        rw [b4, if_neg (by omega), if_neg (by omega), if_neg (by omega), if_neg (by omega), a2, if_pos (by omega), show 251 * K1 + (32 * k + c) - 251 * K1 = 32 * k + c by omega, k1 _ _ (by omega) (by omega)]
      · rw [b4, if_neg (by omega), if_neg (by omega), if_neg (by omega), if_pos (by omega), show 251 * K1 + 128 + j - 251 * K1 - 128 = j by omega, P2 _ _ (by omega) (by omega)]
        exact h6 j hj
      · rw [b4, if_pos rfl, P2 _ _ (by omega) (by omega)]; exact h5
      · rw [b4, if_neg (by omega), if_pos rfl, P2 _ _ (by omega) (by omega)]; exact h4.2.2.2.1
      · rw [b4, if_neg (by omega), if_neg (by omega), if_pos rfl, P2 _ _ (by omega) (by omega)]; exact h4.2.2.2.2.1
    · refine rK_m (k3 i (by omega)) ?_ (fun j hj => ?_)
      · rcases ezt i (by omega) with e1 | e1
        · rw [e1]; exact hw.2.1.2.1.1
        · exact e1.2.1.1
      · rw [b4, if_neg (by omega), if_neg (by omega), if_neg (by omega), if_neg (by omega), a2, if_neg (by omega)]
  · rw [k4, e_TextValuesModel_leavesState_50, k2, show (251 : Int32) * nI K1 = nI (251 * K1) from nI_mul 251 K1, show (0 : Int32) = nI 0 from rfl, a3, show (0 : Int32) = nI 0 from rfl, b5]
theorem r_leave {T : zT} {I : Nat → Nat → Int32} (h : rI T I) (hw : zWf T) : ∃ I', rI (tChg T T.2.2.2.1) I' ∧ I' 117 60 = 0 ∧ (∀ a j, a ≠ 168 → ¬ (a = 117 ∧ (j = 88 ∨ j = 60)) → I' a j = I a j) ∧ jcall (d + 1) 251 [.ref 117] (jGs L g, I, J) = some (none, (jGs L g, I', J)) := by
  obtain ⟨I', k1, k2, k3, k4⟩ := r_leaveQ d L g (J := J) (rJ_I h) hw
  obtain ⟨h1, h3, h4, h5, h8, h10, h11⟩ := k1
  exact ⟨I', ⟨h1, h3, h4, h5, Or.inl k2, h8, h10, h11⟩, k2, k3, k4⟩
end RL

/-! THE REFERENCE: all texts, nothing (template: wip/whole/tpl) -/
set_option maxRecDepth 100000
theorem jb_f {c : Prop} : jb c = false ↔ ¬ c := by
  constructor
  · intro h hc
    rw [jb_t.mpr hc] at h
    cases h
  · intro h
    cases hj : jb c with
    | false => rfl
    | true => exact absurd (jb_t.mp hj) h
section MB
variable (d L : Nat) (g : jG) (I : Nat → Nat → Int32) (J : Nat → Nat → Int64)
def mZ (I : Nat → Nat → Int32) (k c : Nat) : Nat → Nat → Int32 := jup I 119 (fun j => if 32 * k ≤ j ∧ j < 32 * k + c then 0 else I 119 j)
def mAll (I : Nat → Nat → Int32) (k : Nat) : Nat → Nat → Int32 := jup I 119 (fun j => if 32 * k ≤ j ∧ j < 32 * k + 32 then (if j < 32 * k + 2 then 1 else 0) else I 119 j)
theorem mZ_0 (k : Nat) : mZ I k 0 = I := by
  funext x
  unfold mZ jup
  split
  · rename_i h
    subst h
    funext j
    rw [if_neg (by omega)]
  · rfl
theorem mZ_s {k c : Nat} : ju (mZ I k c) 119 (32 * k + c) 0 = mZ I k (c + 1) := by
  funext x
  by_cases hx : x = 119
  · subst hx
    rw [ju_s]
    unfold mZ
    rw [jup_s, jup_s]
    funext j
    unfold jup
    dsimp only
    by_cases hj : j = 32 * k + c
    · rw [if_pos hj, if_pos (by omega)]
    · rw [if_neg hj]
      by_cases h2 : 32 * k ≤ j ∧ j < 32 * k + c
      · rw [if_pos h2, if_pos (by omega)]
      · rw [if_neg h2, if_neg (by omega)]
  · rw [ju_n hx]
    unfold mZ
    rw [jup_n hx, jup_n hx]
theorem mZ_all {k : Nat} : ju (ju (mZ I k 32) 119 (32 * k) 1) 119 (32 * k + 1) 1 = mAll I k := by
  funext x
  by_cases hx : x = 119
  · subst hx
    rw [ju_s, ju_s]
    unfold mZ mAll
    rw [jup_s, jup_s]
    funext j
    unfold jup
    dsimp only
    by_cases h1 : j = 32 * k + 1
    · rw [if_pos h1, if_pos (by omega), if_pos (by omega)]
    · rw [if_neg h1]
      by_cases h0 : j = 32 * k
      · rw [if_pos h0, if_pos (by omega), if_pos (by omega)]
      · rw [if_neg h0]
        by_cases h2 : 32 * k ≤ j ∧ j < 32 * k + 32
        · rw [if_pos h2, if_pos h2, if_neg (by omega)]
        · rw [if_neg h2, if_neg h2]
  · rw [ju_n hx, ju_n hx]
    unfold mZ mAll
    rw [jup_n hx, jup_n hx]
theorem s_laysAll_loop {k : Nat} (hk : k < 56) : ∀ n c, c + n = 32 → jval d 165 2 [.ref 117, .int (nI k), .int (nI c)] [] (jGs L g, mZ I k c, J) = some (none, (jGs L g, mAll I k, J)) := by
  intro n
  induction n with
  | zero =>
    intro c hc
    have : c = 32 := by omega
    subst this
    rw [e_TextValuesModel_laysAll_2, jif_t (show (32 : Int32) ≤ nI 32 by decide), show (32 : Int32) * nI k = nI (32 * k) from nI_mul 32 k, nI_1, jin_nI (by omega) (by omega), jin_nI (by omega) (by omega), nI_c (by omega), nI_c (by omega), mZ_all]
    rfl
  | succ n ih =>
    intro c hc
    rw [e_TextValuesModel_laysAll_2, jif_f (show ¬ (32 : Int32) ≤ nI c from nI_ge (a := c) (b := 32) (by omega) (by omega)), show (32 : Int32) * nI k = nI (32 * k) from nI_mul 32 k, nI_add, nI_1 c, jin_nI (by omega) (by omega), nI_c (by omega), mZ_s]
    exact ih (c + 1) (by omega)
theorem s_laysAll {k : Nat} (hk : k < 56) : jcall (d + 1) 165 [.ref 117, .int (nI k)] (jGs L g, I, J) = some (none, (jGs L g, mAll I k, J)) := by
  have h := s_laysAll_loop d L g I J hk 32 0 (by omega)
  rw [mZ_0] at h
  rw [c_TextValuesModel_laysAll, e_TextValuesModel_laysAll_0]
  exact h
theorem s_isAll {k : Nat} (hk : k < 56) : jcall (d + 2) 166 [.ref 117, .int (nI k)] (jGs L g, I, J) = some (some (.int (bI (jb (I 119 (32 * k) = 1 ∧ I 119 (32 * k + 1) = 1)))), (jGs L g, I, J)) := by
  rw [c_TextValuesModel_isAll, e_TextValuesModel_isAll_0, s_size d L g I J hk, jcI_some, e_TextValuesModel_isAll_5]
  by_cases h1 : I 119 (32 * k) = 1
  · rw [jif_t h1, s_ends d L g I J hk, jcI_some, e_TextValuesModel_isAll_14]
    by_cases h2 : I 119 (32 * k + 1) = 1
    · rw [jif_t h2, e_TextValuesModel_isAll_23, jb01_1, jb_t.mpr ⟨h1, h2⟩]; rfl
    · rw [jif_f h2, e_TextValuesModel_isAll_22, e_TextValuesModel_isAll_23, jb01_0, jb_f.mpr (fun h => h2 h.2)]; rfl
  · rw [jif_f h1, e_TextValuesModel_isAll_22, e_TextValuesModel_isAll_23, jb01_0, jb_f.mpr (fun h => h1 h.1)]; rfl
theorem s_isNothing {k : Nat} (hk : k < 56) : jcall (d + 2) 167 [.ref 117, .int (nI k)] (jGs L g, I, J) = some (some (.int (bI (jb (I 119 (32 * k) = 1 ∧ I 119 (32 * k + 1) = 0)))), (jGs L g, I, J)) := by
  rw [c_TextValuesModel_isNothing, e_TextValuesModel_isNothing_0, s_size d L g I J hk, jcI_some, e_TextValuesModel_isNothing_5]
  by_cases h1 : I 119 (32 * k) = 1
  · rw [jif_t h1, s_ends d L g I J hk, jcI_some, e_TextValuesModel_isNothing_14]
    by_cases h2 : I 119 (32 * k + 1) = 0
    · rw [jif_t h2, e_TextValuesModel_isNothing_22, jb01_1, jb_t.mpr ⟨h1, h2⟩]; rfl
    · rw [jif_f h2, e_TextValuesModel_isNothing_21, e_TextValuesModel_isNothing_22, jb01_0, jb_f.mpr (fun h => h2 h.2)]; rfl
  · rw [jif_f h1, e_TextValuesModel_isNothing_21, e_TextValuesModel_isNothing_22, jb01_0, jb_f.mpr (fun h => h1 h.1)]; rfl
end MB

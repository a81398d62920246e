/-! THE CLASS: variables, digits, letters -/
set_option maxRecDepth 100000
/-- a letter that comes, or none, as the class keeps it -/
def oL (a : Nat) : Int32 := if a = 3 then -1 else nI a
section MM
variable (d L : Nat) (g : jG) {J : Nat → Nat → Int64}
theorem nO0_none {x : Nat} : nO 0 x = vO x := rfl
theorem vO4 {x : Nat} : ∀ v, vO x = some v → v < 4 := fun _ h => (vO_lt h).1
theorem hV_lt {c : Nat → Nat} {N i x : Nat} (hc : ∀ i, i < N → c i < 128) (hx : x < 128) : (hV c N (pSk c N i) < nI x) = (pCh c N i < x ∨ pCh c N i = 255) := by
  rcases pCh_128 (c := c) (N := N) (i := i) hc with h | h
  · obtain ⟨-, hv⟩ := hV_some (c := c) (N := N) (i := i) (by omega)
    rw [hv, zi_lt (by omega) (by omega)]
    exact propext ⟨fun e => Or.inl e, fun e => by omega⟩
  · rw [hV_end h hc, show (-1 : Int32) = -nI 1 from rfl, zi_m1lt (by omega)]
    exact propext ⟨fun _ => Or.inr h, fun _ => trivial⟩
theorem hV_le {c : Nat → Nat} {N i x : Nat} (hc : ∀ i, i < N → c i < 128) (hx : x < 128) : (hV c N (pSk c N i) ≤ nI x) = (pCh c N i ≤ x ∨ pCh c N i = 255) := by
  rcases pCh_128 (c := c) (N := N) (i := i) hc with h | h
  · obtain ⟨-, hv⟩ := hV_some (c := c) (N := N) (i := i) (by omega)
    rw [hv, zi_le (by omega) (by omega)]
    exact propext ⟨fun e => Or.inl e, fun e => by omega⟩
  · rw [hV_end h hc, show (-1 : Int32) = -nI 1 from rfl, zi_m1le (by omega)]
    exact propext ⟨fun _ => Or.inr h, fun _ => trivial⟩
theorem c_variable_t {c : Nat → Nat} {N i v : Nat} {I : Nat → Nat → Int32} (hN : N ≤ 120) (hc : ∀ i, i < N → c i < 128) (hg : g.2.2.1 35 0 = some 2) (h : lG c N i I) (he : nO 0 (pCh c N i) = some v) : ∃ I', eCc I I' ∧ lG c N (pSk c N i + 1) I' ∧ jcall (d + 2) 76 [.ref 35] (jGs L g, I, J) = some (some (.int (nI v)), (jGs L g, I', J)) := by
  obtain ⟨hi, h1, h2⟩ := h
  obtain ⟨I1, a1, a2, a3⟩ := c_peek d L g (J := J) hN hc hg hi h1
  have hlt := pCh_lt (c := c) (N := N) (i := i) (by have := (nO_lt he).2; omega)
  rw [nO0_none] at he
  refine ⟨ju I1 35 2 (nI (pSk c N i + 1)), fun a k hk => by rw [ju_ne (by omega), a1 a k (by omega)], ⟨by omega, lC_mv a2, by rw [zu_k (by omega), a1 _ _ (by omega)]; exact h2⟩, ?_⟩
  rw [c_ProgramReader_variable, e_ProgramReader_variable_0, a3, jcI_some, e_ProgramReader_variable_4, c_variableOf d L g hc, jcI_some, e_ProgramReader_variable_7, jif_t (by rw [oO_ge vO4, he]; rfl), a2.2.2, nI_1, he]
  rfl
theorem c_variable_n {c : Nat → Nat} {N i : Nat} {I : Nat → Nat → Int32} (hN : N ≤ 120) (hc : ∀ i, i < N → c i < 128) (hg : g.2.2.1 35 0 = some 2) (h : lG c N i I) (he : nO 0 (pCh c N i) = none) : ∃ I', eCc I I' ∧ fF c N (pSk c N i) I' ∧ jcall (d + 2) 76 [.ref 35] (jGs L g, I, J) = some (some (.int (nI 0)), (jGs L g, I', J)) := by
  obtain ⟨hi, h1, h2⟩ := h
  obtain ⟨I1, a1, a2, a3⟩ := c_peek d L g (J := J) hN hc hg hi h1
  rw [nO0_none] at he
  refine ⟨_, eCc_t (eCc_2 a1) eCc_now, fF_now (pSk_le hi).2 a2, ?_⟩
  rw [c_ProgramReader_variable, e_ProgramReader_variable_0, a3, jcI_some, e_ProgramReader_variable_4, c_variableOf d L g hc, jcI_some, e_ProgramReader_variable_7, jif_f (by rw [oO_ge vO4, he]; exact fun e => Bool.noConfusion e), c_fail_t d L g (by rw [a1 _ _ (by omega)]; exact h2), jcV_some, e_ProgramReader_variable_16]
  rfl
theorem c_variable_f {c : Nat → Nat} {N p : Nat} {I : Nat → Nat → Int32} (hN : N ≤ 120) (hc : ∀ i, i < N → c i < 128) (hg : g.2.2.1 35 0 = some 2) (h : fF c N p I) : ∃ I' w, eCc I I' ∧ fF c N p I' ∧ jcall (d + 2) 76 [.ref 35] (jGs L g, I, J) = some (some (.int w), (jGs L g, I', J)) := by
  obtain ⟨⟨i, hi, h1⟩, h2, h3⟩ := h
  obtain ⟨I1, a1, a2, a3⟩ := c_peek d L g (J := J) hN hc hg hi h1
  have f1 := fF_2 ⟨⟨i, hi, h1⟩, h2, h3⟩ a1 (pSk_le hi).2 a2
  by_cases he : vO (pCh c N i) = none
  · refine ⟨I1, 0, eCc_2 a1, f1, ?_⟩
    rw [c_ProgramReader_variable, e_ProgramReader_variable_0, a3, jcI_some, e_ProgramReader_variable_4, c_variableOf d L g hc, jcI_some, e_ProgramReader_variable_7, jif_f (by rw [oO_ge vO4, he]; exact fun e => Bool.noConfusion e), c_fail_f d L g f1.2.1, jcV_some, e_ProgramReader_variable_16]
  · obtain ⟨v, hv⟩ := Option.ne_none_iff_exists'.mp he
    have hlt := pCh_lt (c := c) (N := N) (i := i) (by have := (vO_lt hv).2; omega)
    refine ⟨ju I1 35 2 (nI (pSk c N i + 1)), oO (vO (pCh c N i)), fun a k hk => by rw [ju_ne (by omega), a1 a k (by omega)], fF_2 f1 (fun a k hk => ju_ne (by omega)) (show pSk c N i + 1 ≤ N by omega) (lC_mv a2), ?_⟩
    rw [c_ProgramReader_variable, e_ProgramReader_variable_0, a3, jcI_some, e_ProgramReader_variable_4, c_variableOf d L g hc, jcI_some, e_ProgramReader_variable_7, jif_t (by rw [oO_ge vO4, hv]; rfl), a2.2.2, nI_1]
theorem nO1 (x : Nat) : nO 1 x = if 48 ≤ x ∧ x ≤ 51 then some (x - 48) else none := by unfold nO; rw [if_neg (by omega), if_pos rfl]
theorem c_digit_t {c : Nat → Nat} {N i v : Nat} {I : Nat → Nat → Int32} (hN : N ≤ 120) (hc : ∀ i, i < N → c i < 128) (hg : g.2.2.1 35 0 = some 2) (h : lG c N i I) (he : nO 1 (pCh c N i) = some v) : ∃ I', eCc I I' ∧ lG c N (pSk c N i + 1) I' ∧ jcall (d + 2) 77 [.ref 35] (jGs L g, I, J) = some (some (.int (nI v)), (jGs L g, I', J)) := by
  obtain ⟨hi, h1, h2⟩ := h
  obtain ⟨I1, a1, a2, a3⟩ := c_peek d L g (J := J) hN hc hg hi h1
  have hx := (nO_lt he).2
  have hlt := pCh_lt (c := c) (N := N) (i := i) (by omega)
  obtain ⟨-, hv⟩ := hV_some (c := c) (N := N) (i := i) (by omega)
  rw [nO1] at he
  by_cases hr : 48 ≤ pCh c N i ∧ pCh c N i ≤ 51
  · rw [if_pos hr] at he
    cases he
    refine ⟨ju I1 35 2 (nI (pSk c N i + 1)), fun a k hk => by rw [ju_ne (by omega), a1 a k (by omega)], ⟨by omega, lC_mv a2, by rw [zu_k (by omega), a1 _ _ (by omega)]; exact h2⟩, ?_⟩
    rw [c_ProgramReader_digit, e_ProgramReader_digit_0, a3, jcI_some, e_ProgramReader_digit_4, show (48 : Int32) = nI 48 from rfl, show (51 : Int32) = nI 51 from rfl, jif_f (by rw [hV_lt hc (by omega)]; omega), jif_t (by rw [hV_le hc (by omega)]; omega), a2.2.2, nI_1, hv, zi_sub hr.1]
  · rw [if_neg hr] at he
    cases he
theorem c_dg_17 {c : Nat → Nat} {N i : Nat} {I : Nat → Nat → Int32} (hc : ∀ i, i < N → c i < 128) (he : nO 1 (pCh c N i) = none) : jval d 77 4 [.ref 35, jjunk] [.int (hV c N (pSk c N i))] (jGs L g, I, J) = jval d 77 17 [.ref 35, jjunk] [] (jGs L g, I, J) := by
  rw [nO1] at he
  by_cases hr : 48 ≤ pCh c N i ∧ pCh c N i ≤ 51
  · rw [if_pos hr] at he
    cases he
  · rw [e_ProgramReader_digit_4, show (48 : Int32) = nI 48 from rfl, show (51 : Int32) = nI 51 from rfl]
    by_cases h48 : hV c N (pSk c N i) < nI 48
    · rw [jif_t h48]
    · rw [jif_f h48]
      rw [hV_lt hc (by omega)] at h48
      rw [jif_f (by rw [hV_le hc (by omega)]; omega)]
theorem c_digit_n {c : Nat → Nat} {N i : Nat} {I : Nat → Nat → Int32} (hN : N ≤ 120) (hc : ∀ i, i < N → c i < 128) (hg : g.2.2.1 35 0 = some 2) (h : lG c N i I) (he : nO 1 (pCh c N i) = none) : ∃ I', eCc I I' ∧ fF c N (pSk c N i) I' ∧ jcall (d + 2) 77 [.ref 35] (jGs L g, I, J) = some (some (.int (nI 0)), (jGs L g, I', J)) := by
  obtain ⟨hi, h1, h2⟩ := h
  obtain ⟨I1, a1, a2, a3⟩ := c_peek d L g (J := J) hN hc hg hi h1
  refine ⟨_, eCc_t (eCc_2 a1) eCc_now, fF_now (pSk_le hi).2 a2, ?_⟩
  rw [c_ProgramReader_digit, e_ProgramReader_digit_0, a3, jcI_some, c_dg_17 _ L g hc he, e_ProgramReader_digit_17, c_fail_t d L g (by rw [a1 _ _ (by omega)]; exact h2), jcV_some, e_ProgramReader_digit_21]
  rfl
theorem c_digit_f {c : Nat → Nat} {N p : Nat} {I : Nat → Nat → Int32} (hN : N ≤ 120) (hc : ∀ i, i < N → c i < 128) (hg : g.2.2.1 35 0 = some 2) (h : fF c N p I) : ∃ I' w, eCc I I' ∧ fF c N p I' ∧ jcall (d + 2) 77 [.ref 35] (jGs L g, I, J) = some (some (.int w), (jGs L g, I', J)) := by
  obtain ⟨⟨i, hi, h1⟩, h2, h3⟩ := h
  obtain ⟨I1, a1, a2, a3⟩ := c_peek d L g (J := J) hN hc hg hi h1
  have f1 := fF_2 ⟨⟨i, hi, h1⟩, h2, h3⟩ a1 (pSk_le hi).2 a2
  by_cases he : nO 1 (pCh c N i) = none
  · refine ⟨I1, 0, eCc_2 a1, f1, ?_⟩
    rw [c_ProgramReader_digit, e_ProgramReader_digit_0, a3, jcI_some, c_dg_17 _ L g hc he, e_ProgramReader_digit_17, c_fail_f d L g f1.2.1, jcV_some, e_ProgramReader_digit_21]
  · obtain ⟨v, hv⟩ := Option.ne_none_iff_exists'.mp he
    have hlt := pCh_lt (c := c) (N := N) (i := i) (by have := (nO_lt hv).2; omega)
    rw [nO1] at he
    by_cases hr : 48 ≤ pCh c N i ∧ pCh c N i ≤ 51
    · refine ⟨ju I1 35 2 (nI (pSk c N i + 1)), hV c N (pSk c N i) - nI 48, fun a k hk => by rw [ju_ne (by omega), a1 a k (by omega)], fF_2 f1 (fun a k hk => ju_ne (by omega)) (show pSk c N i + 1 ≤ N by omega) (lC_mv a2), ?_⟩
      rw [c_ProgramReader_digit, e_ProgramReader_digit_0, a3, jcI_some, e_ProgramReader_digit_4, show (48 : Int32) = nI 48 from rfl, show (51 : Int32) = nI 51 from rfl, jif_f (by rw [hV_lt hc (by omega)]; omega), jif_t (by rw [hV_le hc (by omega)]; omega), a2.2.2, nI_1]
    · exact absurd (if_neg hr) he
/-- a letter, or none where b is 1 -/
theorem nO23 (b x : Nat) (hb : b < 2) : nO (2 + b) x = if b = 1 ∧ x = 45 then some 3 else if 97 ≤ x ∧ x ≤ 99 then some (x - 97) else none := by
  unfold nO lO3
  rw [if_neg (by omega), if_neg (by omega)]
  by_cases h : b = 1 ∧ x = 45
  · rw [if_pos (by omega), if_pos h]
  · rw [if_neg (by omega), if_neg h]
theorem c_lt_4t {c : Nat → Nat} {N i b v : Nat} {I : Nat → Nat → Int32} (hc : ∀ i, i < N → c i < 128) (hb : b < 2) (he : nO (2 + b) (pCh c N i) = some v) : jval d 78 4 [.ref 35, .int (nI b), jjunk, jjunk] [.int (hV c N (pSk c N i))] (jGs L g, I, J) = some (some (.int (oL v)), (jGs L g, ju I 35 2 (I 35 2 + 1), J)) := by
  obtain ⟨v4, hx⟩ := nO_lt he
  obtain ⟨-, hv⟩ := hV_some (c := c) (N := N) (i := i) (by omega)
  rw [nO23 b _ hb] at he
  by_cases h : b = 1 ∧ pCh c N i = 45
  · rw [if_pos h] at he
    cases he
    rw [e_ProgramReader_letter_4, jif_f (by rw [h.1]; decide), jif_t (by rw [show (45 : Int32) = nI 45 from rfl, hV_pCh hc (by omega)]; exact h.2), e_ProgramReader_letter_20, jif_f (by decide), e_ProgramReader_letter_43, jif_f (by decide), e_ProgramReader_letter_65]
    rfl
  · rw [if_neg h] at he
    by_cases hr : 97 ≤ pCh c N i ∧ pCh c N i ≤ 99
    · rw [if_pos hr] at he
      cases he
      have e19 : jval d 78 19 [.ref 35, jjunk, .int (hV c N (pSk c N i)), jjunk] [] (jGs L g, I, J) = some (some (.int (oL (pCh c N i - 97))), (jGs L g, ju I 35 2 (I 35 2 + 1), J)) := by
        rw [e_ProgramReader_letter_19, e_ProgramReader_letter_20, jif_t rfl, show (97 : Int32) = nI 97 from rfl, show (99 : Int32) = nI 99 from rfl, jif_f (by rw [hV_lt hc (by omega)]; omega), jif_t (by rw [hV_le hc (by omega)]; omega), e_ProgramReader_letter_43, jif_t rfl, e_ProgramReader_letter_65, hv, show (97 : Int32) = nI 97 from rfl, zi_sub hr.1]
        unfold oL
        rw [if_neg (by omega)]
      rw [e_ProgramReader_letter_4]
      by_cases hb1 : b = 1
      · rw [jif_f (by rw [hb1]; decide), jif_f (by rw [show (45 : Int32) = nI 45 from rfl, hV_pCh hc (by omega)]; omega), e19]
      · rw [jif_t (by rw [show b = 0 by omega]; decide), e19]
    · rw [if_neg hr] at he
      cases he
theorem c_lt_4n {c : Nat → Nat} {N i b : Nat} {I : Nat → Nat → Int32} (hc : ∀ i, i < N → c i < 128) (hb : b < 2) (he : nO (2 + b) (pCh c N i) = none) : jval d 78 4 [.ref 35, .int (nI b), jjunk, jjunk] [.int (hV c N (pSk c N i))] (jGs L g, I, J) = jval d 78 37 [.ref 35, jjunk, jjunk, jjunk] [] (jGs L g, I, J) := by
  rw [nO23 b _ hb] at he
  by_cases h : b = 1 ∧ pCh c N i = 45
  · rw [if_pos h] at he
    cases he
  · rw [if_neg h] at he
    by_cases hr : 97 ≤ pCh c N i ∧ pCh c N i ≤ 99
    · rw [if_pos hr] at he
      cases he
    · have e19 : jval d 78 19 [.ref 35, jjunk, .int (hV c N (pSk c N i)), jjunk] [] (jGs L g, I, J) = jval d 78 37 [.ref 35, jjunk, jjunk, jjunk] [] (jGs L g, I, J) := by
        rw [e_ProgramReader_letter_19, e_ProgramReader_letter_20, jif_t rfl, show (97 : Int32) = nI 97 from rfl, show (99 : Int32) = nI 99 from rfl]
        by_cases h97 : hV c N (pSk c N i) < nI 97
        · rw [jif_t h97]
        · rw [jif_f h97]
          rw [hV_lt hc (by omega)] at h97
          rw [jif_f (by rw [hV_le hc (by omega)]; omega)]
      rw [e_ProgramReader_letter_4]
      by_cases hb1 : b = 1
      · rw [jif_f (by rw [hb1]; decide), jif_f (by rw [show (45 : Int32) = nI 45 from rfl, hV_pCh hc (by omega)]; omega), e19]
      · rw [jif_t (by rw [show b = 0 by omega]; decide), e19]
theorem c_letter_t {c : Nat → Nat} {N i b v : Nat} {I : Nat → Nat → Int32} (hN : N ≤ 120) (hc : ∀ i, i < N → c i < 128) (hg : g.2.2.1 35 0 = some 2) (hb : b < 2) (h : lG c N i I) (he : nO (2 + b) (pCh c N i) = some v) : ∃ I', eCc I I' ∧ lG c N (pSk c N i + 1) I' ∧ jcall (d + 2) 78 [.ref 35, .int (nI b)] (jGs L g, I, J) = some (some (.int (oL v)), (jGs L g, I', J)) := by
  obtain ⟨hi, h1, h2⟩ := h
  obtain ⟨I1, a1, a2, a3⟩ := c_peek d L g (J := J) hN hc hg hi h1
  have hlt := pCh_lt (c := c) (N := N) (i := i) (by have := (nO_lt he).2; omega)
  refine ⟨ju I1 35 2 (nI (pSk c N i + 1)), fun a k hk => by rw [ju_ne (by omega), a1 a k (by omega)], ⟨by omega, lC_mv a2, by rw [zu_k (by omega), a1 _ _ (by omega)]; exact h2⟩, ?_⟩
  rw [c_ProgramReader_letter, e_ProgramReader_letter_0, a3, jcI_some, c_lt_4t (d + 1) L g hc hb he, a2.2.2, nI_1]
theorem c_letter_n {c : Nat → Nat} {N i b : Nat} {I : Nat → Nat → Int32} (hN : N ≤ 120) (hc : ∀ i, i < N → c i < 128) (hg : g.2.2.1 35 0 = some 2) (hb : b < 2) (h : lG c N i I) (he : nO (2 + b) (pCh c N i) = none) : ∃ I', eCc I I' ∧ fF c N (pSk c N i) I' ∧ jcall (d + 2) 78 [.ref 35, .int (nI b)] (jGs L g, I, J) = some (some (.int (-1 : Int32)), (jGs L g, I', J)) := by
  obtain ⟨hi, h1, h2⟩ := h
  obtain ⟨I1, a1, a2, a3⟩ := c_peek d L g (J := J) hN hc hg hi h1
  refine ⟨_, eCc_t (eCc_2 a1) eCc_now, fF_now (pSk_le hi).2 a2, ?_⟩
  rw [c_ProgramReader_letter, e_ProgramReader_letter_0, a3, jcI_some, c_lt_4n (d + 1) L g hc hb he, e_ProgramReader_letter_37, c_fail_t d L g (by rw [a1 _ _ (by omega)]; exact h2), jcV_some, e_ProgramReader_letter_41]
theorem c_letter_f {c : Nat → Nat} {N p b : Nat} {I : Nat → Nat → Int32} (hN : N ≤ 120) (hc : ∀ i, i < N → c i < 128) (hg : g.2.2.1 35 0 = some 2) (hb : b < 2) (h : fF c N p I) : ∃ I' w, eCc I I' ∧ fF c N p I' ∧ jcall (d + 2) 78 [.ref 35, .int (nI b)] (jGs L g, I, J) = some (some (.int w), (jGs L g, I', J)) := by
  obtain ⟨⟨i, hi, h1⟩, h2, h3⟩ := h
  obtain ⟨I1, a1, a2, a3⟩ := c_peek d L g (J := J) hN hc hg hi h1
  have f1 := fF_2 ⟨⟨i, hi, h1⟩, h2, h3⟩ a1 (pSk_le hi).2 a2
  by_cases he : nO (2 + b) (pCh c N i) = none
  · refine ⟨I1, -1, eCc_2 a1, f1, ?_⟩
    rw [c_ProgramReader_letter, e_ProgramReader_letter_0, a3, jcI_some, c_lt_4n (d + 1) L g hc hb he, e_ProgramReader_letter_37, c_fail_f d L g f1.2.1, jcV_some, e_ProgramReader_letter_41]
  · obtain ⟨v, hv⟩ := Option.ne_none_iff_exists'.mp he
    have hlt := pCh_lt (c := c) (N := N) (i := i) (by have := (nO_lt hv).2; omega)
    refine ⟨ju I1 35 2 (nI (pSk c N i + 1)), oL v, fun a k hk => by rw [ju_ne (by omega), a1 a k (by omega)], fF_2 f1 (fun a k hk => ju_ne (by omega)) (show pSk c N i + 1 ≤ N by omega) (lC_mv a2), ?_⟩
    rw [c_ProgramReader_letter, e_ProgramReader_letter_0, a3, jcI_some, c_lt_4t (d + 1) L g hc hb hv, a2.2.2, nI_1]
end MM

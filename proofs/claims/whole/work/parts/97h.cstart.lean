/-! RUNS, THE CLASS: start -/
set_option maxRecDepth 100000
section CC
variable (d L : Nat) {q : Nat → Nat → Nat} {P : Nat → kA} {D W su sr F : Nat}
theorem c_start (g : jG) {I : Nat → Nat → Int32} {J : Nat → Nat → Int64} {x : Nat} (hS : cSu L q P D W su sr F g I J) (hb : pBd 120 q) (h8 : q 35 8 ≤ 120) (h0 : ∀ i, i < 4 → 0 < sm (P i) 220 0) (hx : x ≤ 999999) : ∃ I' J', (∀ a j, ¬ wX a j → a ≠ 115 → a ≠ 116 → ¬ (a = 111 ∧ j = 12) → I' a j = I a j) ∧ (∀ a, a ≠ 111 → J' a = J a) ∧ ((∃ s, uRun q P F x = some s ∧ s.2.1 ≤ 100 ∧ s.2.2.1 ≤ 100 ∧ uT s.2.2.2 116 115 I' ∧ I' 111 12 = nI s.2.2.1 ∧ jcall (d + 21) 88 [.ref 111, .ref su, .int (nI x)] (jGs L g, I, J) = some (some (.int (nI s.2.1)), (jGs L (jgsR g 111 1 (some su)), I', J'))) ∨ (uRun q P F x = none ∧ (∀ a j, ¬ wX a j → I' a j = I a j) ∧ jcall (d + 21) 88 [.ref 111, .ref su, .int (nI x)] (jGs L g, I, J) = some (some (.int (-6 : Int32)), (jGs L (jgsR g 111 1 (some su)), I', J')))) := by
  have rj : ∀ v, jgsR (jGs L g) 111 1 v = jGs L (jgsR g 111 1 v) := fun v => jGs_R rfl
  have k9 : gK L g su = 9 := hS.2.2.1
  generalize hg1 : jgsR g 111 1 (some su) = g1
  have K1 : ∀ a, gK L g1 a = gK L g a ∧ gN L g1 a = gN L g a := fun a => by rw [← hg1]; exact ⟨rfl, rfl⟩
  have R1 : ∀ a k, ¬ (a = 111 ∧ k = 1) → g1.2.2.1 a k = g.2.2.1 a k := fun a k h => by rw [← hg1]; show ju g.2.2.1 111 1 (some su) a k = _; rw [ju_ne (by omega)]
  have r1 : g1.2.2.1 111 1 = some su := by rw [← hg1]; show ju g.2.2.1 111 1 (some su) 111 1 = _; rw [zu_at]
  have C1 : g1.2.2.2.1 = g.2.2.2.1 := by rw [← hg1]; rfl
  have O1 : ∀ a, mkO g1 a ↔ mkO g a := mkO_eq (fun k => R1 19 k (by omega))
  have S1 : cSu L q P D W su sr F g1 I J := cSu_s hS (by omega) (fun a ha _ _ => ⟨rfl, rfl, (K1 a).1, (K1 a).2, fun j => R1 a j (by unfold okS at ha; omega), fun h => ⟨fun h' => h.1 ((O1 a).mp h'), h.2⟩⟩)
  have V1 : cV L q P D W su sr F g1 I J := ⟨S1, r1, hb, h8, h0⟩
  obtain ⟨I2, a1, a2, a3⟩ := c_fv (d + 19) L g1 (J := ju J 111 2 (nI x).toInt64) (a := 113) (n := 4) (I := ju (ju (ju I 111 3 (0 : Int32)) 111 4 (0 : Int32)) 111 5 (0 : Int32)) (0 : Int32) (by omega) rfl rfl
  have E2 : eWr I I2 J (ju J 111 2 (nI x).toInt64) := ⟨fun a j hx => by
    have hx' := hx
    unfold wX at hx'
    rw [a1 a (by omega), ju_ne (by omega), ju_ne (by omega), ju_ne (by omega)], fun a ha => ju_n ha⟩
  have U2 : cU (x, 0, 0, fun _ => []) I2 (ju J 111 2 (nI x).toInt64) := by
    refine ⟨⟨by rw [zu_at]; exact nI_l (by omega), by show x < 2147483648; omega⟩, ⟨?_, by show 0 ≤ 100; omega⟩, ?_, ⟨?_, Nat.le_refl 0⟩, fun v hv => ⟨by show 0 ≤ 40; omega, kW_nil, a2 v hv, fun x hx => absurd hx (by show ¬ x < 0; omega)⟩⟩
    · rw [a1 _ (by omega), zu_k (by omega), zu_k (by omega), zu_at]; rfl
    · rw [a1 _ (by omega), zu_k (by omega), zu_at]
    · rw [a1 _ (by omega), zu_at]; rfl
  have V2 := cV_f V1 E2
  obtain ⟨p, hp, hpg, -⟩ := V2.1.2.2.2.2.2.2
  obtain ⟨o1, o2, o3, o4, o5, o6, o7⟩ := hpg
  obtain ⟨I3, J3, b1, b2, b3⟩ := c_run L g1 F 5 0 170 _ 0 (q 117 35) (x, 0, 0, fun _ => []) I2 _ d (by omega) o7 (Nat.le_refl _) (Nat.le_refl _) V2 U2
  have E3 := eWr_t E2 b1
  have start : jcall (d + 21) 88 [.ref 111, .ref su, .int (nI x)] (jGs L g, I, J) = jval (d + 20) 88 46 [.ref 111, jjunk, jjunk] [] (jGs L g1, I3, J3) := by
    rw [c_Runner_start, e_Runner_start_0, rj, hg1, e_Runner_start_5, jif_t (Or.inl rfl), a3, jcV_some, e_Runner_start_34, if_pos (show (jGs L g1).1 su = 9 from V2.1.2.2.1), show (jGs L g1).2.2.1 su 1 = some p from hp, jo_some, if_pos (show (jGs L g1).1 p = 6 from o3), jo_rbl, show (0 : Int32) = nI 0 from rfl, e_rblk]
    rw [show d + 2 * 5 + 9 = d + 19 by omega] at b3
    rw [b3, jcV_some]
  rw [start]
  have b2' : cUo (uRun q P F x) I3 J3 := b2
  cases hu : uRun q P F x with
  | none =>
    rw [hu] at b2'
    have b2'' : I3 111 4 = 1 := b2'
    refine ⟨I3, J3, fun a j hx _ _ _ => E3.1 a j hx, E3.2, Or.inr ⟨rfl, E3.1, ?_⟩⟩
    rw [e_Runner_start_46, jif_f (by rw [b2'']; decide)]
  | some s =>
    rw [hu] at b2'
    obtain ⟨u1, u2, u3, u4, u5⟩ := b2'
    have w1 : ∀ j, jup I3 115 (va_cpy (I3 112) (I3 115) 0 0 160) 115 j = if j < 160 then I3 112 j else I3 115 j := fun j => by
      rw [jup_s]
      unfold va_cpy
      by_cases h : j < 160
      · rw [if_pos ⟨by omega, by omega⟩, if_pos h, show 0 + (j - 0) = j by omega]
      · rw [if_neg (by omega), if_neg h]
    generalize hI4 : jup I3 115 (va_cpy (I3 112) (I3 115) 0 0 160) = I4 at *
    have o4' : ∀ a, a ≠ 115 → I4 a = I3 a := fun a ha => by rw [← hI4, jup_n ha]
    have w2 : ∀ j, jup I4 116 (va_cpy (I4 113) (I4 116) 0 0 4) 116 j = if j < 4 then I4 113 j else I4 116 j := fun j => by
      rw [jup_s]
      unfold va_cpy
      by_cases h : j < 4
      · rw [if_pos ⟨by omega, by omega⟩, if_pos h, show 0 + (j - 0) = j by omega]
      · rw [if_neg (by omega), if_neg h]
    generalize hI5 : jup I4 116 (va_cpy (I4 113) (I4 116) 0 0 4) = I5 at *
    have o5' : ∀ a, a ≠ 115 → a ≠ 116 → I5 a = I3 a := fun a h1 h2 => by rw [← hI5, jup_n h2, o4' a h1]
    refine ⟨ju I5 111 12 (nI s.2.2.1), J3, fun a j hx h1 h2 h3 => by rw [ju_ne (by omega), o5' a h1 h2]; exact E3.1 a j hx, E3.2, Or.inl ⟨s, rfl, u2.2, by have := u4.2; have := u2.2; omega, fun v hv => ?_, zu_at _ _ _ _, ?_⟩⟩
    · obtain ⟨t1, t2, t3, t4⟩ := u5 v hv
      refine ⟨t1, t2, ?_, fun y hy => ?_⟩
      · rw [zu_a (by omega), w2 v, if_pos hv, o4' 113 (by omega)]; exact t3
      · rw [zu_a (by omega), ← hI5, jup_n (show (115 : Nat) ≠ 116 by omega), w1, if_pos (by omega)]; exact t4 y hy
    · rw [e_Runner_start_46, jif_t u3, if_pos ⟨Or.inl ⟨rfl, rfl⟩, by omega⟩, show (0 : Int32).toNatClampNeg = 0 from rfl, show (Int32.ofNat 160).toNatClampNeg = 160 from rfl, jb_t.mpr ⟨by decide, by decide, by decide, by omega, by omega⟩, Bool.and_self, cond_true, hI4, e_Runner_start_74, if_pos ⟨Or.inr ⟨rfl, rfl⟩, by omega⟩, show (0 : Int32).toNatClampNeg = 0 from rfl, show (Int32.ofNat 4).toNatClampNeg = 4 from rfl, jb_t.mpr ⟨by decide, by decide, by decide, by omega, by omega⟩, Bool.and_self, cond_true, hI5, e_Runner_start_92, o5' 111 (by omega) (by omega), u2.1, u4.1]
end CC

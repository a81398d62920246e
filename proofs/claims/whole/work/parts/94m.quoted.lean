/-! THE REFERENCE: quoted -/
set_option maxRecDepth 100000
/-- counters: steps, parts, alarms, told -/
def zC (s p a t : Nat) (I : Nat → Nat → Int32) : Prop := I 117 35 = nI s ∧ I 117 44 = nI p ∧ I 117 42 = nI a ∧ I 117 48 = nI t
theorem zC_e {s p a t : Nat} {I I' : Nat → Nat → Int32} (h : zC s p a t I) (he : eL I I') : zC s p a t I' := ⟨by rw [he _ _ (by omega)]; exact h.1, by rw [he _ _ (by omega)]; exact h.2.1, by rw [he _ _ (by omega)]; exact h.2.2.1, by rw [he _ _ (by omega)]; exact h.2.2.2⟩
theorem rQ_z {q : Nat → Nat → Nat} {I : Nat → Nat → Int32} (h : rQ q I) : zC (q 117 35) (q 117 44) (q 117 42) (q 117 48) I := ⟨h.1.1, h.1.2.2.2.1, h.1.2.2.1, h.1.2.2.2.2⟩
theorem lR_cg {c : Nat → Nat} {N i : Nat} {b : Bool} {I I' : Nat → Nat → Int32} (h : lR c N i b I) (h1 : I' 117 52 = I 117 52) (h2 : ∀ j, I' 148 j = I 148 j) (h3 : I' 117 53 = I 117 53) (h4 : I' 117 54 = I 117 54) : lR c N i b I' := ⟨sR_cg h.1 h1 h2 h3, h4.trans h.2⟩
section MM
variable (d L : Nat) (g : jG) {J : Nat → Nat → Int64}
theorem r_part {q : Nat → Nat → Nat} {s a b : Nat} {I : Nat → Nat → Int32} (h : rQ q I) (hp : q 117 44 < 120) : jcall (d + 1) 203 [.ref 117, .int (nI s), .int (nI a), .int (nI b)] (jGs L g, I, J) = some (none, (jGs L g, ju (ju (ju (ju I 144 (q 117 44) (nI s)) 145 (q 117 44) (nI a)) 146 (q 117 44) (nI b)) 117 44 (nI (q 117 44 + 1)), J)) := by
  have h4 := h.1.2.2.2.1
  rw [c_TextValuesModel_part, e_TextValuesModel_part_0, h4, jin_nI (by omega) (by omega), nI_c (by omega), cond_true, cond_true, cond_true, nI_1]
theorem r_part_f {s p a t : Nat} {x y z : Int32} {I : Nat → Nat → Int32} (h : zC s p a t I) (hp : p < 120) : ∃ I', fQ0 I I' ∧ zC s (p + 1) a t I' ∧ (∀ k, ¬ (k = 44) → I' 117 k = I 117 k) ∧ jcall (d + 1) 203 [.ref 117, .int x, .int y, .int z] (jGs L g, I, J) = some (none, (jGs L g, I', J)) := by
  refine ⟨ju (ju (ju (ju I 144 p x) 145 p y) 146 p z) 117 44 (nI (p + 1)), fun a k hx => by unfold qX at hx; rw [ju_ne (by omega), ju_ne (by omega), ju_ne (by omega), ju_ne (by omega)], ⟨?_, ?_, ?_, ?_⟩, fun k hk => by rw [zu_k hk, zu_a (by omega), zu_a (by omega), zu_a (by omega)], ?_⟩
  · rw [zu_k (by omega), zu_a (by omega), zu_a (by omega), zu_a (by omega)]; exact h.1
  · rw [zu_at]
  · rw [zu_k (by omega), zu_a (by omega), zu_a (by omega), zu_a (by omega)]; exact h.2.2.1
  · rw [zu_k (by omega), zu_a (by omega), zu_a (by omega), zu_a (by omega)]; exact h.2.2.2
  · rw [c_TextValuesModel_part, e_TextValuesModel_part_0, h.2.1, jin_nI (by omega) (by omega), nI_c (by omega), cond_true, cond_true, cond_true, nI_1]
theorem r_qu_12 {c : Nat → Nat} {N : Nat} {x1 : Int32} (hN : N ≤ 120) (hc : ∀ i, i < N → c i < 128) : ∀ f i (q : Nat → Nat → Nat) (I : Nat → Nat → Int32), N - i < f → i ≤ N → lR c N i false I → rQ q I → q 117 48 < i → (∃ i' q' I', pLet c N f i q = (true, i', q') ∧ fQ0 I I' ∧ lR c N i' false I' ∧ rQ q' I' ∧ i < i' ∧ i' ≤ N ∧ q' 117 48 < i' ∧ q 117 48 ≤ q' 117 48 ∧ (∀ a k, a ≠ 38 → a ≠ 35 → a ≠ 120 → ¬ (a = 117 ∧ k = 48) → q' a k = q a k) ∧ jval (d + 3) 204 12 [.ref 117, .int x1, jjunk] [] (jGs L g, I, J) = jval (d + 3) 204 74 [.ref 117, .int x1, jjunk] [.int (nI 1)] (jGs L g, I', J)) ∨ (∃ p q' I' t, pLet c N f i q = (false, p, q') ∧ fQ0 I I' ∧ lR c N p true I' ∧ p ≤ N ∧ zC (q 117 35) (q 117 44) (q 117 42) t I' ∧ jval (d + 3) 204 12 [.ref 117, .int x1, jjunk] [] (jGs L g, I, J) = jval (d + 3) 204 74 [.ref 117, .int x1, jjunk] [.int (nI 0)] (jGs L g, I', J)) := by
  intro f
  induction f with
  | zero => intro i q I hf; omega
  | succ f ih =>
    intro i q I hf hi h hq ht
    obtain ⟨hs1, hs2⟩ := pSk_le (c := c) hi
    obtain ⟨I1, a1, a2, a3⟩ := r_hereL (d + 2) L g (J := J) hN hc hi h
    have hsk : ∀ j, j = pSk c N i → pSk c N j = j ∧ pCh c N j = pCh c N i := fun j hj => by
      have e : pSk c N j = j := by
        unfold pSk
        cases hNj : N - j with
        | zero => rfl
        | succ k =>
          show (if c j = 32 then _ else j) = j
          have hne := skp_ne c (N - i) i
          rw [if_neg (by rw [hj]; exact hne (by unfold pSk at hj; omega))]
      exact ⟨e, by unfold pCh; rw [e, ← hj]⟩
    obtain ⟨k1, k2⟩ := hsk _ rfl
    have hpl : pLet c N (f + 1) i q = if pCh c N i = 39 then (true, pSk c N i + 1, qCode q 39) else match lO3 (pCh c N i) with
      | some l => pLet c N f (pSk c N i + 1) (qCode (qTold q l) (pCh c N i))
      | none => (false, pSk c N i, q) := rfl
    rw [hpl]
    have e12 : jval (d + 3) 204 12 [.ref 117, .int x1, jjunk] [] (jGs L g, I, J) = jval (d + 3) 204 23 [.ref 117, .int x1, jjunk] [.int (hV c N (pSk c N i))] (jGs L g, I1, J) := by
      rw [e_TextValuesModel_quoted_12, h.2, jif_t (by decide), a3, jcI_some]
    rw [e12, e_TextValuesModel_quoted_23]
    by_cases h39 : pCh c N i = 39
    · have hlt := pCh_lt (c := c) (N := N) (i := i) (by omega)
      obtain ⟨I2, b1, b2, b3⟩ := r_takes_t (d + 1) L g (J := J) hN hc hs2 (show 39 < 128 by omega) a2 (k2.trans h39)
      rw [k1] at b2
      refine Or.inl ⟨_, _, I2, if_pos h39, fQ0_t (fQ0_e a1) (fQ0_e b1), b2, rQ_code (rQ_e (rQ_e hq a1) b1), by omega, by omega, ?_, ?_, fun a k a1 a2 _ _ => qCode_r a1 a2, ?_⟩
      · rw [qCode_r (by omega) (by omega)]; omega
      · rw [qCode_r (by omega) (by omega)]; exact Nat.le_refl _
      · rw [jif_t (by rw [show (39 : Int32) = nI 39 from rfl, hV_pCh hc (by omega)]; exact h39), e_TextValuesModel_quoted_68, show (39 : Int32) = nI 39 from rfl, b3, jcI_some]
    · rw [if_neg h39, jif_f (by rw [show (39 : Int32) = nI 39 from rfl, hV_pCh hc (by omega)]; exact h39), show (2 : Int32) = nI 2 from rfl]
      have hq1 := rQ_e hq a1
      have h48 := hq1.1.2.2.2.2
      cases hl : lO3 (pCh c N i) with
      | none =>
        obtain ⟨I2, b1, b2, b3⟩ := r_number_n d L g (J := J) (s := 2) hN hc hs2 (by omega) a2 (by rw [k2, nO_2]; exact hl)
        rw [k1] at b2
        have hz2 := zC_e (rQ_z hq1) b1
        generalize hI3 : ju (ju I2 120 (q 117 48) (-1 : Int32)) 117 48 (nI (q 117 48)) = I3
        have hl3 : lR c N (pSk c N i) true I3 := lR_cg b2 (by rw [← hI3, zu_k (by omega), zu_a (by omega)]) (fun j => by rw [← hI3, zu_a (by omega), zu_a (by omega)]) (by rw [← hI3, zu_k (by omega), zu_a (by omega)]) (by rw [← hI3, zu_k (by omega), zu_a (by omega)])
        obtain ⟨I4, c1, c2, c3⟩ := r_takes_f (d + 2) L g (J := J) (x := 39) hl3
        have f3 : fQ0 I2 I3 := fun a k hx => by unfold qX at hx; rw [← hI3, ju_ne (by omega), ju_ne (by omega)]
        refine Or.inr ⟨_, _, I4, q 117 48, rfl, fQ0_t (fQ0_t (fQ0_e (eL_t a1 b1)) f3) (fQ0_e c1), c2, hs2, zC_e ⟨by rw [← hI3, zu_k (by omega), zu_a (by omega)]; exact hz2.1, by rw [← hI3, zu_k (by omega), zu_a (by omega)]; exact hz2.2.1, by rw [← hI3, zu_k (by omega), zu_a (by omega)]; exact hz2.2.2.1, by rw [← hI3, zu_at]⟩ c1, ?_⟩
        rw [b3, jcI_some, e_TextValuesModel_quoted_33, hz2.2.2.2, jin_nI (by omega) (by omega), nI_c (by omega), cond_true, b2.2, jif_f (by decide), e_TextValuesModel_quoted_61, show (0 : Int32) = nI 0 from rfl, nI_add, Nat.add_zero (q 117 48), hI3, e_TextValuesModel_quoted_12, hl3.2, jif_f (by decide), e_TextValuesModel_quoted_68, c3, jcI_some]
      | some l =>
        obtain ⟨l3, x97, x99⟩ := lO3_lt hl
        have hlt := pCh_lt (c := c) (N := N) (i := i) (by omega)
        obtain ⟨I2, b1, b2, b3⟩ := r_number_t d L g (J := J) (s := 2) hN hc hs2 (by omega) a2 (by rw [k2, nO_2]; exact hl)
        rw [k1] at b2
        have hq2 := rQ_e hq1 b1
        have h482 := hq2.1.2.2.2.2
        have hq3 := rQ_told (l := l) hq2
        generalize hI3 : ju (ju I2 120 (q 117 48) (nI l)) 117 48 (nI (q 117 48 + 1)) = I3 at hq3
        have hl3 : lR c N (pSk c N i + 1) false I3 := lR_cg b2 (by rw [← hI3, zu_k (by omega), zu_a (by omega)]) (fun j => by rw [← hI3, zu_a (by omega), zu_a (by omega)]) (by rw [← hI3, zu_k (by omega), zu_a (by omega)]) (by rw [← hI3, zu_k (by omega), zu_a (by omega)])
        have f3 : fQ0 I2 I3 := fun a k hx => by unfold qX at hx; rw [← hI3, ju_ne (by omega), ju_ne (by omega)]
        have fI : fQ0 I I3 := fQ0_t (fQ0_e (eL_t a1 b1)) f3
        have e48 : qCode (qTold q l) (pCh c N i) 117 48 = q 117 48 + 1 := by rw [qCode_r (by omega) (by omega), qTold_48]
        have er : ∀ a k, a ≠ 38 → a ≠ 35 → a ≠ 120 → ¬ (a = 117 ∧ k = 48) → qCode (qTold q l) (pCh c N i) a k = q a k := fun a k z1 z2 z3 z4 => by
          rw [qCode_r z1 z2]; unfold qTold; rw [ju_ne (by omega), ju_ne (by omega)]
        have estep : jcI (jcall (d + 3) 201 [.ref 117, .int (nI 2)] (jGs L g, I1, J)) (fun r2 S1 => jval (d + 3) 204 33 [.ref 117, .int x1, jjunk] [.int r2] S1) = jval (d + 3) 204 12 [.ref 117, .int x1, jjunk] [] (jGs L g, I3, J) := by
          rw [b3, jcI_some, e_TextValuesModel_quoted_33, h482, jin_nI (by omega) (by omega), nI_c (by omega), cond_true, b2.2, jif_t (by decide), e_TextValuesModel_quoted_61, nI_1, hI3]
        rw [estep]
        rcases ih (pSk c N i + 1) _ I3 (by omega) (by omega) hl3 (rQ_code (x := pCh c N i) hq3) (by rw [e48]; omega) with ⟨i', q', I', z1, z2, z3, z4, z5, z6, z7, z8, z9, z10⟩ | ⟨p, q', I', t, z1, z2, z3, z4, z5, z6⟩
        · refine Or.inl ⟨i', q', I', z1, fQ0_t fI z2, z3, z4, by omega, z6, z7, by rw [e48] at z8; omega, fun a k y1 y2 y3 y4 => (z9 a k y1 y2 y3 y4).trans (er a k y1 y2 y3 y4), z10⟩
        · rw [er _ _ (by omega) (by omega) (by omega) (by omega), er _ _ (by omega) (by omega) (by omega) (by omega), er _ _ (by omega) (by omega) (by omega) (by omega)] at z5
          exact Or.inr ⟨p, q', I', t, z1, fQ0_t fI z2, z3, z4, z5, z6⟩
end MM

/-! TOP: digest -/
set_option maxRecDepth 100000
theorem zLw_s {z : zS} {v : Nat} {A : kA} (h : zLg z v = some A) : zLw z v = dsc A := funext (fun w => by unfold zLw; rw [h])
section DG
variable {L : Nat} {T : zT} {su sr : Nat} {sa : Nat → Nat} {PC PQ : Nat} {g : jG} {I : Nat → Nat → Int32} {J : Nat → Nat → Int64}
theorem c_d17 (h : cI L T su sr sa PC PQ g I J) : ∀ f i l, i + f = 7 → jval 39 146 17 [.ref 1, .long l, jjunk, .int (nI i), jjunk, jjunk] [] (jGs L g, I, J) = jval 39 146 44 [.ref 1, .long (dgF (zTd T) f i l), jjunk, .int (0 : Int32), jjunk, jjunk] [] (jGs L g, I, J) := by
  intro f
  induction f with
  | zero =>
    intro i l hi
    rw [e_TextValues_digest_17, jif_t (show (6 : Int32) < nI i from Eq.mpr (zi_lt (a := 6) (by omega) (by omega)) (by omega))]; rfl
  | succ f ih =>
    intro i l hi
    rw [e_TextValues_digest_17, jif_f (show ¬ (6 : Int32) < nI i from nI_nlt (a := 6) (by omega) (by omega)), c_tally 38 L g h (by omega), jcI_some, e_TextValues_digest_33, nI_1]
    exact ih (i + 1) _ (by omega)
theorem c_d44 (h : cI L T su sr sa PC PQ g I J) (hz : cZs L g I J 40 (zR T.2.2.2.1).1) (hg : cG (zq T.2.2.2.1) (zR T.2.2.2.1).2 sr I) : ∀ f i l, i + f = 4 → jval 39 146 44 [.ref 1, .long l, jjunk, .int (nI i), jjunk, jjunk] [] (jGs L g, I, J) = jval 39 146 84 [.ref 1, .long (dgF (zCt T.2.2.2.1) f i l), jjunk, .int (nI (if (zR T.2.2.2.1).1.isSome = true then 0 else 4)), jjunk, jjunk] [] (jGs L g, I, J) := by
  intro f
  induction f with
  | zero =>
    intro i l hi
    rw [e_TextValues_digest_44, jif_t (show (3 : Int32) < nI i from Eq.mpr (zi_lt (a := 3) (by omega) (by omega)) (by omega)), c_isPossible 38 L g hz, jcI_some, e_TextValues_digest_75]
    show _ = jval 39 146 84 [.ref 1, .long l, jjunk, .int (nI (if (zR T.2.2.2.1).1.isSome = true then 0 else 4)), jjunk, jjunk] [] (jGs L g, I, J)
    cases (zR T.2.2.2.1).1.isSome with
    | true => rw [jif_f (by decide), e_TextValues_digest_83, if_pos rfl]; rfl
    | false => rw [jif_t (by decide), e_TextValues_digest_83, if_neg (by decide)]; rfl
  | succ f ih =>
    intro i l hi
    rw [e_TextValues_digest_44, jif_f (show ¬ (3 : Int32) < nI i from nI_nlt (a := 3) (by omega) (by omega)), c_counted 37 L g h hz hg (by omega), jcI_some, e_TextValues_digest_59, nI_1]
    exact ih (i + 1) _ (by omega)
theorem c_d121 {a v : Nat} {A : kA} (hR : cR L g I J a A) : ∀ f w l, w + f = 5 → jval 39 146 121 [.ref 1, .long l, jjunk, .int (nI v), .ref a, .int (nI w)] [] (jGs L g, I, J) = jval 39 146 84 [.ref 1, .long (dgF (dsc A) f w l), jjunk, .int (nI (v + 1)), jjunk, jjunk] [] (jGs L g, I, J) := by
  intro f
  induction f with
  | zero =>
    intro w l hi
    rw [e_TextValues_digest_121a, jif_t (show (4 : Int32) < nI w from Eq.mpr (zi_lt (a := 4) (by omega) (by omega)) (by omega)), nI_1]; rfl
  | succ f ih =>
    intro w l hi
    rw [e_TextValues_digest_121a, jif_f (show ¬ (4 : Int32) < nI w from nI_nlt (a := 4) (by omega) (by omega)), c_dsc 34 L g hR (by omega), jcI_some, e_TextValues_digest_140a, nI_1]
    exact ih (w + 1) _ (by omega)
theorem c_d84 (h : cI L T su sr sa PC PQ g I J) (hz : cZs L g I J 40 (zR T.2.2.2.1).1) : ∀ f v l, v + f = 8 → ((zR T.2.2.2.1).1.isSome = true ∨ 4 ≤ v) → jval 39 146 84 [.ref 1, .long l, jjunk, .int (nI v), jjunk, jjunk] [] (jGs L g, I, J) = jval 39 146 157 [.ref 1, .long (dgA (zLw T.2.2.2.1) 5 f v l), jjunk, .int (0 : Int32), jjunk, jjunk] [] (jGs L g, I, J) := by
  intro f
  induction f with
  | zero =>
    intro v l hi hs
    rw [e_TextValues_digest_84, jif_t (show (8 : Int32) ≤ nI v from nI_le (a := 8) (by omega) (by omega))]; rfl
  | succ f ih =>
    intro v l hi hs
    have key : ∃ A a, zLg T.2.2.2.1 v = some A ∧ cR L g I J a A ∧ jval 39 146 84 [.ref 1, .long l, jjunk, .int (nI v), jjunk, jjunk] [] (jGs L g, I, J) = jval 39 146 121 [.ref 1, .long l, jjunk, .int (nI v), .ref a, .int (0 : Int32)] [] (jGs L g, I, J) := by
      rw [e_TextValues_digest_84, jif_f (show ¬ (8 : Int32) ≤ nI v from nI_ge (b := 8) (by omega) (by omega))]
      unfold zLg
      by_cases h4 : v < 4
      · rw [if_pos h4, jif_f (show ¬ (4 : Int32) ≤ nI v from nI_ge (b := 4) (by omega) (by omega)), c_behind 37 L g h4, jcR_some, e_TextValues_digest_103a, e_TextValues_digest_116a]
        cases ho : (zR T.2.2.2.1).1 with
        | none =>
          rw [ho] at hs
          rcases hs with e | e
          · cases e
          · omega
        | some V =>
          rw [ho] at hz
          obtain ⟨lv, -⟩ := cZs_v hz
          exact ⟨V v, _, rfl, lv v h4, rfl⟩
      · obtain ⟨x, x1, x2, x3, x4⟩ := c_patternAt 38 L g h.2.2.2.1.2.1 (show v - 4 < 4 by omega)
        rw [if_neg h4, jif_t (show (4 : Int32) ≤ nI v from nI_le (a := 4) (by omega) (by omega)), c_s9 h, show nI v - (4 : Int32) = nI (v - 4) from zi_sub (b := 4) (by omega), x4, jcR_some, e_TextValues_digest_116a]
        exact ⟨_, x, rfl, x1, rfl⟩
    obtain ⟨A, a, k1, k2, k3⟩ := key
    rw [k3, show (0 : Int32) = nI 0 from rfl, c_d121 k2 5 0 l (by omega)]
    unfold dgA
    rw [zLw_s k1]
    exact ih (v + 1) _ (by omega) (hs.imp id (fun e => by omega))
theorem c_d174 (h : cI L T su sr sa PC PQ g I J) (hW : zWf T) (hg : cG (zq T.2.2.2.1) (zR T.2.2.2.1).2 sr I) {v : Nat} (hv : v < zq T.2.2.2.1 117 42) : ∀ f w l, w + f = 3 → jval 39 146 174 [.ref 1, .long l, jjunk, .int (nI v), .int (nI w), jjunk] [] (jGs L g, I, J) = jval 39 146 157 [.ref 1, .long (dgF (zAl T.2.2.2.1 v) f w l), jjunk, .int (nI (v + 1)), jjunk, jjunk] [] (jGs L g, I, J) := by
  intro f
  induction f with
  | zero =>
    intro w l hi
    rw [e_TextValues_digest_174, jif_t (show (2 : Int32) < nI w from Eq.mpr (zi_lt (a := 2) (by omega) (by omega)) (by omega)), nI_1]; rfl
  | succ f ih =>
    intro w l hi
    rw [e_TextValues_digest_174, jif_f (show ¬ (2 : Int32) < nI w from nI_nlt (a := 2) (by omega) (by omega)), c_alarmed 37 L g h hW hg hv (by omega), jcI_some, e_TextValues_digest_192, nI_1]
    exact ih (w + 1) _ (by omega)
theorem c_d157 (h : cI L T su sr sa PC PQ g I J) (hW : zWf T) (hz : cZs L g I J 40 (zR T.2.2.2.1).1) (hg : cG (zq T.2.2.2.1) (zR T.2.2.2.1).2 sr I) : ∀ f v l, v + f = zq T.2.2.2.1 117 42 → jval 39 146 157 [.ref 1, .long l, jjunk, .int (nI v), jjunk, jjunk] [] (jGs L g, I, J) = some (some (.long ((31 : Int64) * ((31 : Int64) * dgA (zAl T.2.2.2.1) 3 f v l + (zCa (zR T.2.2.2.1).1 T.2.2.2.2.2.2.1).toInt64) + (nI T.2.2.2.2.2.2.2).toInt64)), (jGs L g, I, J)) := by
  have hb := hW.2.1.2.2.1.2.2.1.2.2.2
  obtain ⟨p, hp, ep⟩ := c_pg h
  intro f
  induction f with
  | zero =>
    intro v l hi
    rw [e_TextValues_digest_157, ep, c_alarmCount 38 L g hp, jcI_some, e_TextValues_digest_168, jif_t (nI_le (by omega) (by omega)), c_caughtNow 36 L g hz h.2.2.2.2.2.1, jcI_some, e_TextValues_digest_216, c_rings 38 L g, h.2.2.2.2.2.2, jcI_some, e_TextValues_digest_231]; rfl
  | succ f ih =>
    intro v l hi
    rw [e_TextValues_digest_157, ep, c_alarmCount 38 L g hp, jcI_some, e_TextValues_digest_168, jif_f (nI_ge (by omega) (by omega)), show (0 : Int32) = nI 0 from rfl, c_d174 h hW hg (by omega) 3 0 l (by omega)]
    unfold dgA
    exact ih (v + 1) _ (by omega)
theorem r_d6 (hr : rI T I) : ∀ f i l, i + f = 7 → jval 39 276 6 [.ref 117, .long l, jjunk, .int (nI i), jjunk] [] (jGs L g, I, J) = jval 39 276 33 [.ref 117, .long (dgF (zTd T) f i l), jjunk, .int (0 : Int32), jjunk] [] (jGs L g, I, J) := by
  intro f
  induction f with
  | zero =>
    intro i l hi
    rw [e_TextValuesModel_digest_6, jif_t (show (7 : Int32) ≤ nI i from nI_le (a := 7) (by omega) (by omega))]; rfl
  | succ f ih =>
    intro i l hi
    rw [e_TextValuesModel_digest_6, jif_f (show ¬ (7 : Int32) ≤ nI i from nI_ge (b := 7) (by omega) (by omega)), r_told 38 L g hr (by omega), jcI_some, e_TextValuesModel_digest_22, nI_1]
    exact ih (i + 1) _ (by omega)
theorem r_d33 (hW : zWf T) : ∀ f i l I, i + f = 4 → rI T I → ∃ I', rI T I' ∧ oR I I' J J ∧ rSt I' 48 (zR T.2.2.2.1).1 ∧ jval 39 276 33 [.ref 117, .long l, jjunk, .int (nI i), jjunk] [] (jGs L g, I, J) = jval 39 276 71 [.ref 117, .long (dgF (zCt T.2.2.2.1) f i l), jjunk, .int (nI (if (zR T.2.2.2.1).1.isSome = true then 0 else 4)), jjunk] [] (jGs L g, I', J) := by
  intro f
  induction f with
  | zero =>
    intro i l I hi hr
    obtain ⟨I', a1, a2, a3, a4, a5⟩ := r_nowhere 24 L g (J := J) hr hW (v := 0) (by omega)
    refine ⟨I', a1, a2, a3.1, ?_⟩
    rw [e_TextValuesModel_digest_33, jif_t (show (4 : Int32) ≤ nI i from nI_le (a := 4) (by omega) (by omega)), show (0 : Int32) = nI 0 from rfl, a4, jcI_some, e_TextValuesModel_digest_62]
    show _ = jval 39 276 71 [.ref 117, .long l, jjunk, .int (nI (if (zR T.2.2.2.1).1.isSome = true then 0 else 4)), jjunk] [] (jGs L g, I', J)
    unfold zLg
    cases (zR T.2.2.2.1).1 with
    | none =>
      rw [if_pos (by omega), if_neg (by decide)]
      show jif (bI true = 0) _ _ = _
      rw [jif_f (by decide), e_TextValuesModel_digest_70]; rfl
    | some V =>
      rw [if_pos (by omega), if_pos (show (some V).isSome = true from rfl)]
      show jif (bI false = 0) _ _ = _
      rw [jif_t (by decide), e_TextValuesModel_digest_70]; rfl
  | succ f ih =>
    intro i l I hi hr
    obtain ⟨I', a1, a2, a3⟩ := r_countOf 24 L g (J := J) hr hW (show i < 4 by omega)
    obtain ⟨I2, b1, b2, b3, b4⟩ := ih (i + 1) ((31 : Int64) * l + (zCt T.2.2.2.1 i).toInt64) I' (by omega) a1
    refine ⟨I2, b1, oR_t a2 b2, b3, ?_⟩
    rw [e_TextValuesModel_digest_33, jif_f (show ¬ (4 : Int32) ≤ nI i from nI_ge (b := 4) (by omega) (by omega)), a3, jcI_some, e_TextValuesModel_digest_48, nI_1]
    exact b4
theorem r_d80 (hW : zWf T) {v : Nat} {A : kA} (hv : v < 8) (hA : zLg T.2.2.2.1 v = some A) : ∀ f w l I, w + f = 5 → rI T I → rSt I 48 (zR T.2.2.2.1).1 → ∃ I', rI T I' ∧ oR I I' J J ∧ rSt I' 48 (zR T.2.2.2.1).1 ∧ jval 39 276 80 [.ref 117, .long l, jjunk, .int (nI v), .int (nI w)] [] (jGs L g, I, J) = jval 39 276 71 [.ref 117, .long (dgF (dsc A) f w l), jjunk, .int (nI (v + 1)), jjunk] [] (jGs L g, I', J) := by
  intro f
  induction f with
  | zero =>
    intro w l I hi hr hs
    refine ⟨I, hr, oR_r I J, hs, ?_⟩
    rw [e_TextValuesModel_digest_80, jif_t (show (5 : Int32) ≤ nI w from nI_le (a := 5) (by omega) (by omega)), nI_1]; rfl
  | succ f ih =>
    intro w l I hi hr hs
    obtain ⟨k1, k2⟩ := r_lgs hr hs hv hA
    obtain ⟨I3, f1, f2⟩ := r_dsc 34 L g (J := J) k1 k2 (show w < 5 by omega)
    have hr3 : rI T I3 := rI_x hr hW (fun a j hx => by rw [f1 a (by unfold iX at hx; omega)]) (fun y hy => by rw [f1 125 (by omega)]; exact hr.2.2.1.2.2.1 y hy)
    have hs3 : rSt I3 48 (zR T.2.2.2.1).1 := rSt_cg hs (by rw [f1 151 (by omega)]) (fun v hv c hc => by rw [f1 119 (by omega)])
    obtain ⟨I2, b1, b2, b3, b4⟩ := ih (w + 1) ((31 : Int64) * l + (dsc A w).toInt64) I3 (by omega) hr3 hs3
    refine ⟨I2, b1, oR_t (oR_I (fun a j ha => by rw [f1 a (by omega)])) b2, b3, ?_⟩
    rw [e_TextValuesModel_digest_80, jif_f (show ¬ (5 : Int32) ≤ nI w from nI_ge (b := 5) (by omega) (by omega)), r_slot 38 L g hv, jcI_some, e_TextValuesModel_digest_97, f2, jcI_some, e_TextValuesModel_digest_102, nI_1]
    exact b4
theorem r_d71 (hW : zWf T) : ∀ f v l I, v + f = 8 → ((zR T.2.2.2.1).1.isSome = true ∨ 4 ≤ v) → rI T I → rSt I 48 (zR T.2.2.2.1).1 → ∃ I', rI T I' ∧ oR I I' J J ∧ jval 39 276 71 [.ref 117, .long l, jjunk, .int (nI v), jjunk] [] (jGs L g, I, J) = jval 39 276 119 [.ref 117, .long (dgA (zLw T.2.2.2.1) 5 f v l), jjunk, .int (0 : Int32), jjunk] [] (jGs L g, I', J) := by
  intro f
  induction f with
  | zero =>
    intro v l I hi hs hr h3
    refine ⟨I, hr, oR_r I J, ?_⟩
    rw [e_TextValuesModel_digest_71, jif_t (show (8 : Int32) ≤ nI v from nI_le (a := 8) (by omega) (by omega))]; rfl
  | succ f ih =>
    intro v l I hi hs hr h3
    have key : ∃ A, zLg T.2.2.2.1 v = some A := by
      unfold zLg
      by_cases h4 : v < 4
      · rw [if_pos h4]
        cases ho : (zR T.2.2.2.1).1 with
        | none =>
          rw [ho] at hs
          rcases hs with e | e
          · cases e
          · omega
        | some V => exact ⟨_, rfl⟩
      · rw [if_neg h4]; exact ⟨_, rfl⟩
    obtain ⟨A, hA⟩ := key
    obtain ⟨I', a1, a2, a3, a4⟩ := r_d80 (J := J) (L := L) (g := g) hW (show v < 8 by omega) hA 5 0 l I (by omega) hr h3
    obtain ⟨I2, b1, b2, b3⟩ := ih (v + 1) (dgF (dsc A) 5 0 l) I' (by omega) (hs.imp id (fun e => by omega)) a1 a3
    refine ⟨I2, b1, oR_t a2 b2, ?_⟩
    rw [e_TextValuesModel_digest_71, jif_f (show ¬ (8 : Int32) ≤ nI v from nI_ge (b := 8) (by omega) (by omega)), show (0 : Int32) = nI 0 from rfl, a4]
    unfold dgA
    rw [zLw_s hA]
    exact b3
theorem r_d130 (hW : zWf T) {v : Nat} (hv : v < zq T.2.2.2.1 117 42) : ∀ f w l I, w + f = 3 → rI T I → ∃ I', rI T I' ∧ oR I I' J J ∧ jval 39 276 130 [.ref 117, .long l, jjunk, .int (nI v), .int (nI w)] [] (jGs L g, I, J) = jval 39 276 119 [.ref 117, .long (dgF (zAl T.2.2.2.1 v) f w l), jjunk, .int (nI (v + 1)), jjunk] [] (jGs L g, I', J) := by
  intro f
  induction f with
  | zero =>
    intro w l I hi hr
    refine ⟨I, hr, oR_r I J, ?_⟩
    rw [e_TextValuesModel_digest_130, jif_t (show (3 : Int32) ≤ nI w from nI_le (a := 3) (by omega) (by omega)), nI_1]; rfl
  | succ f ih =>
    intro w l I hi hr
    obtain ⟨I', a1, a2, a3⟩ := r_alarmIs 24 L g (J := J) hr hW hv (show w < 3 by omega)
    obtain ⟨I2, b1, b2, b3⟩ := ih (w + 1) ((31 : Int64) * l + (zAl T.2.2.2.1 v w).toInt64) I' (by omega) a1
    refine ⟨I2, b1, oR_t a2 b2, ?_⟩
    rw [e_TextValuesModel_digest_130, jif_f (show ¬ (3 : Int32) ≤ nI w from nI_ge (b := 3) (by omega) (by omega)), a3, jcI_some, e_TextValuesModel_digest_148, nI_1]
    exact b3
theorem r_d119 (hW : zWf T) : ∀ f v l I, v + f = zq T.2.2.2.1 117 42 → rI T I → ∃ I', rI T I' ∧ oR I I' J J ∧ jval 39 276 119 [.ref 117, .long l, jjunk, .int (nI v), jjunk] [] (jGs L g, I, J) = some (some (.long ((31 : Int64) * ((31 : Int64) * dgA (zAl T.2.2.2.1) 3 f v l + (zCa (zR T.2.2.2.1).1 T.2.2.2.2.2.2.1).toInt64) + (nI T.2.2.2.2.2.2.2).toInt64)), (jGs L g, I', J)) := by
  have hb := hW.2.1.2.2.1.2.2.1.2.2.2
  intro f
  induction f with
  | zero =>
    intro v l I hi hr
    obtain ⟨I', a1, a2, a3⟩ := r_caught 24 L g (J := J) hr hW
    refine ⟨I', a1, a2, ?_⟩
    rw [e_TextValuesModel_digest_119, hr.2.2.1.1.1.2.2.1, jif_t (nI_le (by omega) (by omega)), a3, jcI_some, e_TextValuesModel_digest_175, a1.2.2.2.2.2.2.2]; rfl
  | succ f ih =>
    intro v l I hi hr
    obtain ⟨I', a1, a2, a3⟩ := r_d130 (J := J) (L := L) (g := g) hW (show v < zq T.2.2.2.1 117 42 by omega) 3 0 l I (by omega) hr
    obtain ⟨I2, b1, b2, b3⟩ := ih (v + 1) (dgF (zAl T.2.2.2.1 v) 3 0 l) I' (by omega) a1
    refine ⟨I2, b1, oR_t a2 b2, ?_⟩
    rw [e_TextValuesModel_digest_119, hr.2.2.1.1.1.2.2.1, jif_f (nI_ge (by omega) (by omega)), show (0 : Int32) = nI 0 from rfl, a3]
    unfold dgA
    exact b3
end DG
theorem ok_digest : okV true 146 276 [] := by
  intro L T su sr sa PC PQ g I J h hw h1 h2
  obtain ⟨g1, I1, J1, sr1, PC1, PQ1, c1, c2, c3, c4, c5, c6⟩ := c_rfK h hw h1 h2 (fun S1 => jval 39 146 11 [.ref 1, jjunk, jjunk, jjunk, jjunk, jjunk] [] S1)
  generalize hs : (if (zR T.2.2.2.1).1.isSome = true then 0 else 4) = s0
  have s1 : ∃ f0, s0 + f0 = 8 ∧ f0 = (if (zR T.2.2.2.1).1.isSome = true then 8 else 4) ∧ ((zR T.2.2.2.1).1.isSome = true ∨ 4 ≤ s0) := by
    cases hc : (zR T.2.2.2.1).1.isSome with
    | true => rw [hc] at hs; exact ⟨8, by rw [← hs]; rfl, rfl, Or.inl rfl⟩
    | false => rw [hc] at hs; exact ⟨4, by rw [← hs]; rfl, rfl, Or.inr (by rw [← hs]; decide)⟩
  obtain ⟨f0, s2, s3, s4⟩ := s1
  have eD : zDg T = (31 : Int64) * ((31 : Int64) * dgA (zAl T.2.2.2.1) 3 (zq T.2.2.2.1 117 42) 0 (dgA (zLw T.2.2.2.1) 5 f0 s0 (dgF (zCt T.2.2.2.1) 4 0 (dgF (zTd T) 7 0 1815))) + (zCa (zR T.2.2.2.1).1 T.2.2.2.2.2.2.1).toInt64) + (nI T.2.2.2.2.2.2.2).toInt64 := by
    unfold zDg; rw [hs, ← s3]
  refine ⟨.long (zDg T), T, ⟨_, rfl⟩, hw, ⟨su, sr1, sa, PC1, PQ1, g1, I1, J1, c1, by omega, by omega, c4, ?_⟩, fun g I J hr => ?_⟩
  · rw [c_TextValues_digest, e_TextValues_digest_0]
    refine c6.trans ?_
    show jval 39 146 11 [.ref 1, jjunk, jjunk, jjunk, jjunk, jjunk] [] (jGs L g1, I1, J1) = _
    rw [e_TextValues_digest_11, show (0 : Int32) = nI 0 from rfl, c_d17 c1 7 0 _ (by omega), show (0 : Int32) = nI 0 from rfl, c_d44 c1 c5.1 c5.2.1 4 0 _ (by omega), hs, c_d84 c1 c5.1 f0 s0 _ s2 s4, show (0 : Int32) = nI 0 from rfl, c_d157 c1 hw c5.1 c5.2.1 (zq T.2.2.2.1 117 42) 0 _ (Nat.zero_add _), eD]
  · obtain ⟨I2, a1, a2, a3, a4⟩ := r_d33 (L := L) (g := g) (J := J) hw 4 0 (dgF (zTd T) 7 0 1815) I (by omega) hr
    rw [hs] at a4
    obtain ⟨I3, b1, b2, b3⟩ := r_d71 (L := L) (g := g) (J := J) hw f0 s0 (dgF (zCt T.2.2.2.1) 4 0 (dgF (zTd T) 7 0 1815)) I2 s2 s4 a1 a3
    obtain ⟨I4, d1, d2, d3⟩ := r_d119 (L := L) (g := g) (J := J) hw (zq T.2.2.2.1 117 42) 0 (dgA (zLw T.2.2.2.1) 5 f0 s0 (dgF (zCt T.2.2.2.1) 4 0 (dgF (zTd T) 7 0 1815))) I3 (Nat.zero_add _) b1
    refine ⟨I4, J, d1, oR_t a2 (oR_t b2 d2), ?_⟩
    rw [c_TextValuesModel_digest, e_TextValuesModel_digest_0, show (0 : Int32) = nI 0 from rfl, r_d6 hr 7 0 _ (by omega), show (0 : Int32) = nI 0 from rfl, a4, b3, show (0 : Int32) = nI 0 from rfl, d3, eD]

/-! TOP: within, holds, caught -/
set_option maxRecDepth 100000
theorem r_lgs {T : zT} {I : Nat → Nat → Int32} {v : Nat} {A : kA} (h : rI T I) (h3 : rSt I 48 (zR T.2.2.2.1).1) (hv : v < 8) (hA : zLg T.2.2.2.1 v = some A) : mR I (zSl v) A ∧ kV A := by
  unfold zLg at hA
  unfold zSl
  by_cases h4 : v < 4
  · rw [if_pos h4] at hA ⊢
    rcases h3 with ⟨e1, e2⟩ | ⟨V, e1, e2, e3⟩
    · rw [e1] at hA; cases hA
    · rw [e1] at hA; cases hA
      exact e3 v h4
  · rw [if_neg h4] at hA ⊢
    cases hA
    exact h.2.2.1.2.1 (v - 4) (by omega)
theorem ok_within (x y : Int32) : okV false 135 267 [.int x, .int y] := by
  intro L T su sr sa PC PQ g I J h hw h1 h2
  have bad : (∀ (g : jG) (I : Nat → Nat → Int32) (J : Nat → Nat → Int64), jcall 40 135 [.ref 1, .int x, .int y] (jGs L g, I, J) = jval 39 135 14 [.ref 1, jjunk, jjunk, jjunk, jjunk] [] (jGs L g, I, J)) → (∀ (g : jG) (I : Nat → Nat → Int32) (J : Nat → Nat → Int64), jcall 40 267 [.ref 117, .int x, .int y] (jGs L g, I, J) = jval 39 267 20 [.ref 117, jjunk, jjunk] [] (jGs L g, I, J)) → ∃ v T', (∃ x, v = Value.int x) ∧ zWf T' ∧ cRs L T' PC PQ I 135 [.int x, .int y] v (jGs L g, I, J) ∧ rRs L T T' 267 [.int x, .int y] v := by
    intro e1 e2
    refine ⟨.int (tAn 0), tRef T 0, ⟨_, rfl⟩, tRef_W hw, cBad (K := fun r2 S1 => jval 39 135 20 [jjunk, jjunk, jjunk, jjunk, jjunk] [.int r2] S1) h (by omega) ?_ (fun I' => e_TextValues_within_20 ..), rBad hw (by omega) (fun g I J hr => ⟨fun r2 S1 => jval 39 267 24 [jjunk, jjunk, jjunk] [.int r2] S1, ?_, fun I' => e_TextValuesModel_within_24 ..⟩)⟩
    · rw [e1, e_TextValues_within_14]; rfl
    · rw [e2, e_TextValuesModel_within_20]
  rcases ix_b x (n := 8) (by omega) (by omega) with ⟨v, hv, e, hb⟩ | ⟨hx, hb⟩
  · subst e
    rcases ix_b y (n := 8) (by omega) (by omega) with ⟨w, hw8, e', hb'⟩ | ⟨hy, hb'⟩
    · subst e'
      have up : ∃ g' I' J' sr' PC' PQ', cI L T su sr' sa PC' PQ' g' I' J' ∧ PC' ≤ PC + 1 ∧ PQ' ≤ PQ + 3000 ∧ oC I I' ∧ ((v < 4 ∨ w < 4) → cZs L g' I' J' 40 (zR T.2.2.2.1).1) ∧ jcall 40 135 [.ref 1, .int (nI v), .int (nI w)] (jGs L g, I, J) = jval 39 135 42 [.ref 1, .int (nI v), .int (nI w), jjunk, jjunk] [] (jGs L g', I', J') := by
        have e0 : jcall 40 135 [.ref 1, .int (nI v), .int (nI w)] (jGs L g, I, J) = jif (nI v < (4 : Int32)) (jval 39 135 31 [.ref 1, .int (nI v), .int (nI w), jjunk, jjunk] [] (jGs L g, I, J)) (jif ((4 : Int32) ≤ nI w) (jval 39 135 42 [.ref 1, .int (nI v), .int (nI w), jjunk, jjunk] [] (jGs L g, I, J)) (jval 39 135 31 [.ref 1, .int (nI v), .int (nI w), jjunk, jjunk] [] (jGs L g, I, J))) := by
          rw [c_TextValues_within, e_TextValues_within_0, c_isLang 38 L g, hb, jcI_some, e_TextValues_within_4, jif_f (by decide), c_isLang 38 L g, hb', jcI_some, e_TextValues_within_11, jif_f (by decide)]
        by_cases h4 : v < 4 ∨ w < 4
        · obtain ⟨g1, I1, J1, sr1, PC1, PQ1, c1, c2, c3, c4, c5, c6⟩ := c_rfK h hw h1 h2 (fun S1 => jval 39 135 42 [.ref 1, .int (nI v), .int (nI w), jjunk, jjunk] [] S1)
          refine ⟨g1, I1, J1, sr1, PC1, PQ1, c1, c2, c3, c4, fun _ => c5.1, ?_⟩
          rw [e0]
          have e31 : jval 39 135 31 [.ref 1, .int (nI v), .int (nI w), jjunk, jjunk] [] (jGs L g, I, J) = jval 39 135 42 [.ref 1, .int (nI v), .int (nI w), jjunk, jjunk] [] (jGs L g1, I1, J1) := by
            rw [e_TextValues_within_31]; exact c6
          by_cases hv4 : v < 4
          · rw [jif_t (show nI v < (4 : Int32) from Eq.mpr (zi_lt (b := 4) (by omega) (by omega)) hv4), e31]
          · rw [jif_f (show ¬ nI v < (4 : Int32) from fun e => hv4 (Eq.mp (zi_lt (b := 4) (by omega) (by omega)) e)), jif_f (show ¬ (4 : Int32) ≤ nI w from nI_ge (b := 4) (by omega) (by omega)), e31]
        · refine ⟨g, I, J, sr, PC, PQ, h, by omega, by omega, oC_r I, fun e => absurd e h4, ?_⟩
          rw [e0, jif_f (show ¬ nI v < (4 : Int32) from fun e => h4 (Or.inl (Eq.mp (zi_lt (b := 4) (by omega) (by omega)) e))), jif_t (show (4 : Int32) ≤ nI w from nI_le (a := 4) (by omega) (by omega))]
      obtain ⟨g1, I1, J1, sr1, PC1, PQ1, c1, c2, c3, c4, c5, c6⟩ := up
      have eC : PC1 ≤ PC + 200 ∧ PQ1 ≤ PQ + 6000 := by omega
      have er : ∀ g I J, rI T I → ∃ I', rI T I' ∧ oR I I' J J ∧ jcall 40 267 [.ref 117, .int (nI v), .int (nI w)] (jGs L g, I, J) = jval 39 267 30 [.ref 117, .int (nI v), .int (nI w)] [.int (bI (zLg T.2.2.2.1 v).isNone)] (jGs L g, I', J) := by
        intro g I J hr
        obtain ⟨I', a1, a2, a3, a4, a5⟩ := r_nowhere 24 L g (J := J) hr hw hv
        refine ⟨I', a1, a2, ?_⟩
        rw [c_TextValuesModel_within, e_TextValuesModel_within_0, s_in 38 L g I J, show (7 : Int32) = nI (8 - 1) from rfl, hb, jcI_some, e_TextValuesModel_within_7, jif_f (by decide), s_in 38 L g I J, show (7 : Int32) = nI (8 - 1) from rfl, hb', jcI_some, e_TextValuesModel_within_17, jif_f (by decide), a4, jcI_some]
      have no : (jcall 40 135 [.ref 1, .int (nI v), .int (nI w)] (jGs L g, I, J) = jval 39 135 64 [.ref 1, jjunk, jjunk, jjunk, jjunk] [] (jGs L g1, I1, J1)) → (∀ g I J, rI T I → ∃ I', rI T I' ∧ oR I I' J J ∧ jcall 40 267 [.ref 117, .int (nI v), .int (nI w)] (jGs L g, I, J) = jval 39 267 41 [.ref 117, jjunk, jjunk] [] (jGs L g, I', J)) → ∃ u T', (∃ x, u = Value.int x) ∧ zWf T' ∧ cRs L T' PC PQ I 135 [.int (nI v), .int (nI w)] u (jGs L g, I, J) ∧ rRs L T T' 267 [.int (nI v), .int (nI w)] u := by
        intro e1 e2
        obtain ⟨I2, b1, b2, b3⟩ := c_refuse 38 L g1 c1 (j := 1) (by omega)
        refine ⟨.int (tAn 1), tRef T 1, ⟨_, rfl⟩, tRef_W hw, ⟨su, sr1, sa, PC1, PQ1, g1, I2, J1, b1, eC.1, eC.2, oC_t c4 b2, ?_⟩, fun g I J hr => ?_⟩
        · rw [e1, e_TextValues_within_64, show (-3 : Int32) = tAn 1 from rfl, b3, jcI_some, e_TextValues_within_70]
        · obtain ⟨I', d1, d2, d3⟩ := e2 g I J hr
          obtain ⟨I3, f1, f2, f3⟩ := r_refuse 38 L g (J := J) d1 hw (j := 1) (by omega)
          refine ⟨I3, J, f1, oR_t d2 f2, ?_⟩
          rw [d3, e_TextValuesModel_within_41, f3, jcI_some, e_TextValuesModel_within_45]
      have er2 : ∀ A, zLg T.2.2.2.1 v = some A → ∀ g I J, rI T I → ∃ I', rI T I' ∧ oR I I' J J ∧ rSt I' 48 (zR T.2.2.2.1).1 ∧ jcall 40 267 [.ref 117, .int (nI v), .int (nI w)] (jGs L g, I, J) = jval 39 267 38 [.ref 117, .int (nI v), .int (nI w)] [.int (bI (zLg T.2.2.2.1 w).isNone)] (jGs L g, I', J) := by
        intro A hA g I J hr
        obtain ⟨I', d1, d2, d3⟩ := er g I J hr
        obtain ⟨I2, a1, a2, a3, a4, a5⟩ := r_nowhere 24 L g (J := J) d1 hw hw8
        refine ⟨I2, a1, oR_t d2 a2, a3.1, ?_⟩
        rw [d3, hA]
        show jval 39 267 30 _ [.int (bI false)] _ = _
        rw [e_TextValuesModel_within_30, jif_t (by decide), a4, jcI_some]
      rcases c_lang 35 L g1 c1 hv (fun e => c5 (Or.inl e)) with ⟨z1, z2⟩ | ⟨A, a, z1, z2, z3, z4, z5⟩
      · refine no ?_ (fun g I J hr => ?_)
        · rw [c6, e_TextValues_within_42, z2, jcR_null, e_TextValues_within_47]
          rcases c_lang 35 L g1 c1 hw8 (fun e => c5 (Or.inr e)) with ⟨y1, y2⟩ | ⟨B, b, y1, y2, y3, y4, y5⟩
          · rw [y2, jcR_null, e_TextValues_within_53]
          · rw [y5, jcR_some, e_TextValues_within_53a]
        · obtain ⟨I', d1, d2, d3⟩ := er g I J hr
          refine ⟨I', d1, d2, ?_⟩
          rw [d3, z1]
          show jval 39 267 30 _ [.int (bI true)] _ = _
          rw [e_TextValuesModel_within_30, jif_f (by decide)]
      · rcases c_lang 35 L g1 c1 hw8 (fun e => c5 (Or.inr e)) with ⟨y1, y2⟩ | ⟨B, b, y1, y2, y3, y4, y5⟩
        · refine no ?_ (fun g I J hr => ?_)
          · rw [c6, e_TextValues_within_42, z5, jcR_some, e_TextValues_within_47a, y2, jcR_null, e_TextValues_within_53b]
          · obtain ⟨I', d1, d2, d3, d4⟩ := er2 A z1 g I J hr
            refine ⟨I', d1, d2, ?_⟩
            rw [d4, y1]
            show jval 39 267 38 _ [.int (bI true)] _ = _
            rw [e_TextValuesModel_within_38, jif_f (by decide)]
        · obtain ⟨I2, o, k1, k2, k3⟩ := c_smallest 37 L g1 (J := J1) (m := 2) (ins := false) (fun x y => by cases x <;> cases y <;> rfl) z2 y2
          refine ⟨.int (bI o.isNone), T, ⟨_, rfl⟩, hw, ⟨su, sr1, sa, PC1, PQ1, g1, I2, J1, cI_S c1 (cI_room c1) (fun a q1 q2 => k1 a (by omega) (by omega) (by omega) (by omega)), eC.1, eC.2, oC_t c4 (fun a q1 q2 => k1 a (by omega) (by omega) (by omega) (by omega)), ?_⟩, fun g I J hr => ?_⟩
          · rw [c6, e_TextValues_within_42, z5, jcR_some, e_TextValues_within_47a, y5, jcR_some, e_TextValues_within_53c]
            rcases k3 with ⟨o1, o2⟩ | ⟨u, o1, o2, o3, o4, o5⟩
            · rw [show (0 : Int32) = bI false from rfl, o2, jcI_some, e_TextValues_within_82, jif_f (by decide), e_TextValues_within_90, o1]; rfl
            · rw [show (0 : Int32) = bI false from rfl, o5, jcI_some, e_TextValues_within_82, jif_t (nI_pos' (by omega)), e_TextValues_within_90, o1]; rfl
          · obtain ⟨I', d1, d2, d3, d4⟩ := er2 A z1 g I J hr
            have hA := (r_lgs d1 d3 hv z1).1
            have hB := (r_lgs d1 d3 hw8 y1).1
            obtain ⟨I3, o', q1, q2, q3⟩ := r_isWithin 31 L g J hA hB (by unfold zSl; split <;> omega) (by unfold zSl; split <;> omega) d1.2.2.1.2.2.1
            have eo : o' = o := lsP_uniq q2 k2
            rw [eo] at q3
            refine ⟨I3, J, rI_x d1 hw (fun a j hx => q1.1 a j (fun hs => by unfold mSc2 mScr at hs; unfold iX at hx; omega) (by unfold iX at hx; omega)) q1.2, oR_t d2 (oR_I (fun a j ha => q1.1 a j (fun hs => by unfold mSc2 mScr at hs; omega) (by omega))), ?_⟩
            rw [d4, y1]
            show jval 39 267 38 _ [.int (bI false)] _ = _
            rw [e_TextValuesModel_within_38, jif_t (by decide), r_slot 38 L g hv, jcI_some, e_TextValuesModel_within_52, r_slot 38 L g hw8, jcI_some, e_TextValuesModel_within_57, q3, jcI_some, e_TextValuesModel_within_60]
            cases o.isNone with
            | true => rw [jif_f (by decide), e_TextValuesModel_within_68]; rfl
            | false => rw [jif_t (by decide), e_TextValuesModel_within_68]; rfl
    · refine bad (fun g I J => ?_) (fun g I J => ?_)
      · rw [c_TextValues_within, e_TextValues_within_0, c_isLang 38 L g, hb, jcI_some, e_TextValues_within_4, jif_f (by decide), c_isLang 38 L g, hb', jcI_some, e_TextValues_within_11, jif_t (by decide)]
      · rw [c_TextValuesModel_within, e_TextValuesModel_within_0, s_in 38 L g I J, show (7 : Int32) = nI (8 - 1) from rfl, hb, jcI_some, e_TextValuesModel_within_7, jif_f (by decide), s_in 38 L g I J, show (7 : Int32) = nI (8 - 1) from rfl, hb', jcI_some, e_TextValuesModel_within_17, jif_t (by decide)]
  · refine bad (fun g I J => ?_) (fun g I J => ?_)
    · rw [c_TextValues_within, e_TextValues_within_0, c_isLang 38 L g, hb, jcI_some, e_TextValues_within_4, jif_t (by decide)]
    · rw [c_TextValuesModel_within, e_TextValuesModel_within_0, s_in 38 L g I J, show (7 : Int32) = nI (8 - 1) from rfl, hb, jcI_some, e_TextValuesModel_within_7, jif_t (by decide)]
/-- a text typed, letter by letter -/
def hL (A : kA) (c : Nat → Nat) : Nat → Nat → Nat → Int32
  | 0, _, s => bI (A.2.1 s)
  | f + 1, i, s => if 97 ≤ c i ∧ c i ≤ 99 then hL A c f (i + 1) (A.2.2 s (c i - 97)) else if c i = 32 then hL A c f (i + 1) s else -10 - nI i
theorem c_hL (L : Nat) (g : jG) {I : Nat → Nat → Int32} {J : Nat → Nat → Int64} {a N : Nat} {A : kA} {c : Nat → Nat} (hR : cR L g I J a A) (hN : N ≤ 120) (e1 : I 1 1 = nI N) (e2 : ∀ i, i < N → I 2 i = nI (c i)) (hc : ∀ i, i < N → c i < 128) : ∀ f i s, i + f = N → s < 10 → jval 39 134 52 [.ref 1, jjunk, .ref a, .int (nI s), .int (nI i), jjunk] [] (jGs L g, I, J) = some (some (.int (hL A c f i s)), (jGs L g, I, J)) := by
  have k2 : (jGs L g).1 a = 2 := hR.1
  intro f
  induction f with
  | zero =>
    intro i s hi hs
    rw [e_TextValues_holds_52, e1, jif_t (nI_le (by omega) (by omega)), e_TextValues_holds_127, if_pos k2, c_isEnd 38 L g hR (by omega), jcI_some, e_TextValues_holds_132]
    show _ = some (some (Value.int (bI (A.2.1 s))), (jGs L g, I, J))
    cases A.2.1 s with
    | true => rw [jif_f (by decide), e_TextValues_holds_140]; rfl
    | false => rw [jif_t (by decide), e_TextValues_holds_140]; rfl
  | succ f ih =>
    intro i s hi hs
    have hci := hc i (by omega)
    rw [e_TextValues_holds_52, e1, jif_f (nI_ge (by omega) (by omega)), jif_f (show ¬ Int32.ofNat 120 ≤ nI i from nI_ge (b := 120) (by omega) (by omega)), jin_nI (by omega) (by omega), cond_true, nI_c (n := i) (by omega), e2 i (by omega)]
    unfold hL
    by_cases h1 : 97 ≤ c i ∧ c i ≤ 99
    · rw [if_pos h1, jif_f (show ¬ nI (c i) < (97 : Int32) from fun e => by have := Eq.mp (zi_lt (b := 97) (by omega) (by omega)) e; omega), jif_f (show ¬ (99 : Int32) < nI (c i) from nI_nlt (a := 99) (by omega) (by omega)), if_pos k2, show nI (c i) - (97 : Int32) = nI (c i - 97) from zi_sub (b := 97) (by omega), c_to 38 L g hR hs (by omega), jcI_some, e_TextValues_holds_104, e_TextValues_holds_121, nI_1]
      exact ih (i + 1) _ (by omega) (kV_to hR.2.1 _ _)
    · have e108 : jval 39 134 108 [.ref 1, jjunk, .ref a, .int (nI s), .int (nI i), .int (nI (c i))] [] (jGs L g, I, J) = some (some (.int (if c i = 32 then hL A c f (i + 1) s else -10 - nI i)), (jGs L g, I, J)) := by
        rw [e_TextValues_holds_108]
        by_cases h2 : c i = 32
        · rw [if_pos h2, h2, jif_t (by decide), e_TextValues_holds_121, nI_1]
          exact ih (i + 1) s (by omega) hs
        · rw [if_neg h2, jif_f (show ¬ nI (c i) = (32 : Int32) from fun e => h2 ((nI_eq (b := 32) (by omega) (by omega)).mp e))]
      rw [if_neg h1]
      by_cases h3 : c i < 97
      · rw [jif_t (show nI (c i) < (97 : Int32) from Eq.mpr (zi_lt (b := 97) (by omega) (by omega)) h3), e108]
      · rw [jif_f (show ¬ nI (c i) < (97 : Int32) from fun e => h3 (Eq.mp (zi_lt (b := 97) (by omega) (by omega)) e)), jif_t (show (99 : Int32) < nI (c i) from Eq.mpr (zi_lt (a := 99) (by omega) (by omega)) (by omega)), e108]
theorem r_hL (L : Nat) (g : jG) {I : Nat → Nat → Int32} {J : Nat → Nat → Int64} {k N : Nat} {A : kA} {c : Nat → Nat} (hR : mR I k A) (hN : N ≤ 120) (e1 : I 117 50 = nI N) (e2 : ∀ i, i < N → I 147 i = nI (c i)) (hc : ∀ i, i < N → c i < 128) : ∀ f i s, i + f = N → s < A.1 → jval 39 266 39 [.ref 117, jjunk, .int (nI k), .int (nI s), .int (nI i), jjunk] [] (jGs L g, I, J) = some (some (.int (hL A c f i s)), (jGs L g, I, J)) := by
  intro f
  induction f with
  | zero =>
    intro i s hi hs
    rw [e_TextValuesModel_holds_39, e1, jif_t (nI_le (by omega) (by omega)), r_isEnd 37 L g J hR hs, jcI_some, e_TextValuesModel_holds_115]
    show _ = some (some (Value.int (bI (A.2.1 s))), (jGs L g, I, J))
    cases A.2.1 s with
    | true => rw [jif_f (by decide), e_TextValuesModel_holds_123]; rfl
    | false => rw [jif_t (by decide), e_TextValuesModel_holds_123]; rfl
  | succ f ih =>
    intro i s hi hs
    have hci := hc i (by omega)
    rw [e_TextValuesModel_holds_39, e1, jif_f (nI_ge (by omega) (by omega)), jin_nI (by omega) (by omega), cond_true, nI_c (n := i) (by omega), e2 i (by omega), r_letterOf 37 L g hci, jcI_some, e_TextValuesModel_holds_58]
    unfold hL
    by_cases h1 : 97 ≤ c i ∧ c i ≤ 99
    · have e : lO (c i) = nI (c i - 97) := by unfold lO; rw [if_pos h1]
      have ne : ¬ nI (c i - 97) = (-1 : Int32) := fun e => absurd (nI_pos' (n := c i - 97) (by omega)) (by rw [e]; decide)
      rw [if_pos h1, e, jif_f ne, e_TextValuesModel_holds_84, jif_f ne, r_to 38 L g J hR hs (by omega), jcI_some, e_TextValuesModel_holds_102, nI_1]
      exact ih (i + 1) _ (by omega) (hR.2.2.1.2 s hs _ (by omega))
    · have e : lO (c i) = -1 := by unfold lO; rw [if_neg h1]
      rw [if_neg h1, e, jif_t rfl, jin_nI (by omega) (by omega), cond_true, nI_c (n := i) (by omega), e2 i (by omega)]
      by_cases h2 : c i = 32
      · rw [if_pos h2, h2, jif_t (by decide), e_TextValuesModel_holds_84, jif_t rfl, e_TextValuesModel_holds_102, nI_1]
        exact ih (i + 1) s (by omega) hs
      · rw [if_neg h2, jif_f (show ¬ nI (c i) = (32 : Int32) from fun e => h2 ((nI_eq (b := 32) (by omega) (by omega)).mp e))]
theorem ok_holds (x : Int32) : okV false 134 266 [.int x] := by
  intro L T su sr sa PC PQ g I J h hw h1 h2
  rcases ix_b x (n := 8) (by omega) (by omega) with ⟨v, hv, e, hb⟩ | ⟨hx, hb⟩
  · subst e
    obtain ⟨g1, I1, J1, sr1, PC1, PQ1, c1, c2, c3, c4, c5, c6⟩ := c_up h hw h1 h2 hv (fun S1 => jval 39 134 30 [.ref 1, .int (nI v), jjunk, jjunk, jjunk, jjunk] [] S1)
    have e0 : jcall 40 134 [.ref 1, .int (nI v)] (jGs L g, I, J) = jval 39 134 30 [.ref 1, .int (nI v), jjunk, jjunk, jjunk, jjunk] [] (jGs L g1, I1, J1) := by
      rw [c_TextValues_holds, e_TextValues_holds_0, c_isLang 38 L g, hb, jcI_some, e_TextValues_holds_4, jif_f (by decide)]
      exact c6
    have er : ∀ g I J, rI T I → ∃ I', rI T I' ∧ oR I I' J J ∧ jcall 40 266 [.ref 117, .int (nI v)] (jGs L g, I, J) = jval 39 266 20 [.ref 117, .int (nI v), jjunk, jjunk, jjunk, jjunk] [.int (bI (zLg T.2.2.2.1 v).isNone)] (jGs L g, I', J) ∧ ∀ A, zLg T.2.2.2.1 v = some A → mR I' (zSl v) A ∧ kV A := by
      intro g I J hr
      obtain ⟨I', a1, a2, a3, a4, a5⟩ := r_nowhere 24 L g (J := J) hr hw hv
      refine ⟨I', a1, a2, ?_, a5⟩
      rw [c_TextValuesModel_holds, e_TextValuesModel_holds_0, s_in 38 L g I J, show (7 : Int32) = nI (8 - 1) from rfl, hb, jcI_some, e_TextValuesModel_holds_7, jif_f (by decide), a4, jcI_some]
    rcases c_lang 35 L g1 c1 hv c5 with ⟨z1, z2⟩ | ⟨A, a, z1, z2, z3, z4, z5⟩
    · obtain ⟨I2, b1, b2, b3⟩ := c_refuse 38 L g1 c1 (j := 1) (by omega)
      refine ⟨.int (tAn 1), tRef T 1, ⟨_, rfl⟩, tRef_W hw, ⟨su, sr1, sa, PC1, PQ1, g1, I2, J1, b1, by omega, by omega, oC_t c4 b2, ?_⟩, fun g I J hr => ?_⟩
      · rw [e0, e_TextValues_holds_30, z2, jcR_null, e_TextValues_holds_35, show (-3 : Int32) = tAn 1 from rfl, b3, jcI_some, e_TextValues_holds_46]
      · obtain ⟨I', d1, d2, d3, d4⟩ := er g I J hr
        obtain ⟨I3, f1, f2, f3⟩ := r_refuse 38 L g (J := J) d1 hw (j := 1) (by omega)
        refine ⟨I3, J, f1, oR_t d2 f2, ?_⟩
        rw [d3, z1]
        show jval 39 266 20 _ [.int (bI true)] _ = _
        rw [e_TextValuesModel_holds_20, jif_f (by decide), f3, jcI_some, e_TextValuesModel_holds_27]
    · refine ⟨.int (hL A T.2.1 T.1 0 0), T, ⟨_, rfl⟩, hw, ⟨su, sr1, sa, PC1, PQ1, g1, I1, J1, c1, by omega, by omega, c4, ?_⟩, fun g I J hr => ?_⟩
      · rw [e0, e_TextValues_holds_30, z5, jcR_some, e_TextValues_holds_35a]
        exact c_hL L g1 z2 hw.1.1 c1.1.1 c1.1.2 hw.1.2 T.1 0 0 (by omega) (by omega)
      · obtain ⟨I', d1, d2, d3, d4⟩ := er g I J hr
        obtain ⟨k1, k2⟩ := d4 A z1
        refine ⟨I', J, d1, d2, ?_⟩
        rw [d3, z1]
        show jval 39 266 20 _ [.int (bI false)] _ = _
        rw [e_TextValuesModel_holds_20, jif_t (by decide), r_slot 38 L g hv, jcI_some, e_TextValuesModel_holds_33]
        exact r_hL L g k1 hw.1.1 d1.1.1 d1.1.2 hw.1.2 T.1 0 0 (by omega) k1.2.2.1.1
  · refine ⟨.int (tAn 0), tRef T 0, ⟨_, rfl⟩, tRef_W hw, cBad (K := fun r2 S1 => jval 39 134 13 [jjunk, jjunk, jjunk, jjunk, jjunk, jjunk] [.int r2] S1) h (by omega) ?_ (fun I' => e_TextValues_holds_13 ..), rBad hw (by omega) (fun g I J hr => ⟨fun r2 S1 => jval 39 266 14 [jjunk, jjunk, jjunk, jjunk, jjunk, jjunk] [.int r2] S1, ?_, fun I' => e_TextValuesModel_holds_14 ..⟩)⟩
    · rw [c_TextValues_holds, e_TextValues_holds_0, c_isLang 38 L g, hb, jcI_some, e_TextValues_holds_4, jif_t (by decide)]; rfl
    · rw [c_TextValuesModel_holds, e_TextValuesModel_holds_0, s_in 38 L g I J, show (7 : Int32) = nI (8 - 1) from rfl, hb, jcI_some, e_TextValuesModel_holds_7, jif_t (by decide)]

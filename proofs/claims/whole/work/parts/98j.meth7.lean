/-! TOP: caught -/
set_option maxRecDepth 100000
def cgV (V : Nat → kA) (w : Nat → List Nat) : Nat → Nat → Int32 → Int32
  | 0, _, x => x
  | f + 1, j, x => cgV V w f (j + 1) (if kL (V j) 0 (w j) = true then x ||| ((1 : Int32) <<< (nI j &&& 31)) else x)
def zCa (o : Option yV) (w : Nat → List Nat) : Int32 := match o with
  | none => 0
  | some V => cgV V w 4 0 0
theorem kL_c {A : kA} {s l : Nat} {w : List Nat} : kL A s (l :: w) = kL A (A.2.2 s l) w := rfl
theorem dr_c {w : List Nat} {i : Nat} (h : i < w.length) : w.drop i = w.getD i 0 :: w.drop (i + 1) := by
  rw [List.drop_eq_getElem_cons h, List.getD_eq_getElem?_getD, List.getElem?_eq_getElem h]; rfl
theorem c_kin (d L : Nat) (g : jG) {I : Nat → Nat → Int32} {J : Nat → Nat → Int64} {a v : Nat} {A : kA} {V : Nat → List Nat} (hR : cR L g I J a A) (hv : v < 4) (hu : uT V 116 115 I) : ∀ f i s, i + f = (V v).length → s < 10 → jval (d + 1) 87 5 [.ref 111, .int (nI v), .ref a, .int (nI s), .int (nI i)] [] (jGs L g, I, J) = some (some (.int (bI (kL A s ((V v).drop i)))), (jGs L g, I, J)) := by
  have k2 : (jGs L g).1 a = 2 := hR.1
  obtain ⟨u1, u2, u3, u4⟩ := hu v hv
  intro f
  induction f with
  | zero =>
    intro i s hi hs
    rw [e_Runner_keptIsIn_5, c_keptLength d L g hv, u3, jcI_some, e_Runner_keptIsIn_12, jif_t (nI_le (by omega) (by omega)), if_pos k2, c_isEnd d L g hR (by omega), jcI_some, e_Runner_keptIsIn_39, List.drop_eq_nil_of_le (by omega)]
    show _ = some (some (Value.int (bI (A.2.1 s))), (jGs L g, I, J))
    cases A.2.1 s with
    | true => rw [jif_t (by decide)]
    | false => rw [jif_t (by decide)]
  | succ f ih =>
    intro i s hi hs
    rw [e_Runner_keptIsIn_5, c_keptLength d L g hv, u3, jcI_some, e_Runner_keptIsIn_12, jif_f (nI_ge (by omega) (by omega)), c_keptLetter d L g (by omega), u4 i (by omega), jcI_some, e_Runner_keptIsIn_24, if_pos k2, c_to d L g hR hs (kW_get u2 (by omega)), jcI_some, e_Runner_keptIsIn_27, nI_1, dr_c (show i < (V v).length by omega), kL_c]
    exact ih (i + 1) _ (by omega) (kV_to hR.2.1 _ _)
theorem c_isKept (d L : Nat) (g : jG) {I : Nat → Nat → Int32} {J : Nat → Nat → Int64} {a v : Nat} {A : kA} {V : Nat → List Nat} (hR : cR L g I J a A) (hv : v < 4) (hu : uT V 116 115 I) : jcall (d + 2) 87 [.ref 111, .int (nI v), .ref a] (jGs L g, I, J) = some (some (.int (bI (kL A 0 (V v)))), (jGs L g, I, J)) := by
  rw [c_Runner_keptIsIn, e_Runner_keptIsIn_0]
  exact c_kin d L g hR hv hu (V v).length 0 0 (Nat.zero_add _) (by omega)
theorem c_behind (d L : Nat) (g : jG) {I : Nat → Nat → Int32} {J : Nat → Nat → Int64} {v : Nat} (hv : v < 4) : jcall (d + 2) 2 [.ref 39, .int (nI v)] (jGs L g, I, J) = some (some (.ref (40 + 2 + v)), (jGs L g, I, J)) := by
  rw [c_Analysis_behind, e_Analysis_behind_0, c_at d L g (Or.inl rfl) hv, jcR_some, e_Analysis_behind_8a]
theorem c_cg (d L : Nat) (g : jG) {I : Nat → Nat → Int32} {J : Nat → Nat → Int64} {V : yV} {w : Nat → List Nat} (hz : cZs L g I J 40 (some V)) (hu : uT w 116 115 I) : ∀ f j x, j + f = 4 → jval (d + 2) 154 4 [.ref 1, .int x, .int (nI j)] [] (jGs L g, I, J) = some (some (.int (cgV V w f j x)), (jGs L g, I, J)) := by
  obtain ⟨lv, -⟩ := cZs_v hz
  intro f
  induction f with
  | zero =>
    intro j x hj
    rw [e_TextValues_caughtNow_4, jif_t (show (4 : Int32) ≤ nI j from nI_le (a := 4) (by omega) (by omega)), e_TextValues_caughtNow_50]; rfl
  | succ f ih =>
    intro j x hj
    rw [e_TextValues_caughtNow_4, jif_f (show ¬ (4 : Int32) ≤ nI j from nI_ge (b := 4) (by omega) (by omega)), c_isPossible (d + 1) L g hz, jcI_some]
    show jval (d + 2) 154 16 _ [.int (bI true)] _ = _
    rw [e_TextValues_caughtNow_16, jif_f (by decide), c_behind d L g (by omega), jcR_some, e_TextValues_caughtNow_32a, c_isKept d L g (lv j (by omega)) (by omega) hu, jcI_some, e_TextValues_caughtNow_35]
    unfold cgV
    cases kL (V j) 0 (w j) with
    | true =>
      rw [jif_f (by decide), e_TextValues_caughtNow_44, nI_1, if_pos rfl]
      exact ih (j + 1) _ (by omega)
    | false =>
      rw [jif_t (by decide), e_TextValues_caughtNow_44, nI_1, if_neg (by decide)]
      exact ih (j + 1) _ (by omega)
theorem c_caughtNow (d L : Nat) (g : jG) {I : Nat → Nat → Int32} {J : Nat → Nat → Int64} {o : Option yV} {w : Nat → List Nat} (hz : cZs L g I J 40 o) (hu : uT w 116 115 I) : jcall (d + 3) 154 [.ref 1] (jGs L g, I, J) = some (some (.int (zCa o w)), (jGs L g, I, J)) := by
  rw [c_TextValues_caughtNow, e_TextValues_caughtNow_0]
  cases o with
  | none =>
    rw [e_TextValues_caughtNow_4, jif_f (by decide), c_isPossible (d + 1) L g hz, jcI_some]
    show jval (d + 2) 154 16 _ [.int (bI false)] _ = _
    rw [e_TextValues_caughtNow_16, jif_t (by decide), e_TextValues_caughtNow_50]; rfl
  | some V => exact c_cg d L g hz hu 4 0 0 (by omega)
theorem r_cg (d L : Nat) (g : jG) {I : Nat → Nat → Int32} {J : Nat → Nat → Int64} {V : yV} {w : Nat → List Nat} (hz : rSt I 48 (some V)) (hu : uT w 159 158 I) : ∀ f j x, j + f = 4 → jval (d + 3) 241 8 [.ref 117, .int x, .int (nI j)] [] (jGs L g, I, J) = some (some (.int (cgV V w f j x)), (jGs L g, I, J)) := by
  rcases hz with ⟨e1, -⟩ | ⟨V', e1, e2, e3⟩
  · cases e1
  cases e1
  intro f
  induction f with
  | zero =>
    intro j x hj
    rw [e_TextValuesModel_caught_8, jif_t (show (4 : Int32) ≤ nI j from nI_le (a := 4) (by omega) (by omega)), e_TextValuesModel_caught_64]; rfl
  | succ f ih =>
    intro j x hj
    obtain ⟨u1, u2, u3, u4⟩ := hu j (by omega)
    rw [e_TextValuesModel_caught_8, jif_f (show ¬ (4 : Int32) ≤ nI j from nI_ge (b := 4) (by omega) (by omega)), show jin (48 : Int32) 56 = true from jin_nI (n := 48) (by omega) (by omega), cond_true, show (48 : Int32).toNatClampNeg = 48 from rfl, e2, jif_t (by decide), jin_nI (by omega) (by omega), cond_true, nI_c (by omega), u3, show (48 : Int32) + nI j = nI (48 + j) from nI_add 48 j, show (40 : Int32) * nI j = nI (40 * j) from nI_mul 40 j, r_isIn d L g (N := 160) (e3 j (by omega)).1 rfl rfl (by omega) u2 (by omega) u4, jcI_some, e_TextValuesModel_caught_46]
    unfold cgV
    cases kL (V j) 0 (w j) with
    | true =>
      rw [jif_f (by decide), e_TextValuesModel_caught_56, nI_1, if_pos rfl]
      exact ih (j + 1) _ (by omega)
    | false =>
      rw [jif_t (by decide), e_TextValuesModel_caught_56, nI_1, if_neg (by decide), Int32.or_zero]
      exact ih (j + 1) _ (by omega)
theorem r_caught (d L : Nat) (g : jG) {T : zT} {I : Nat → Nat → Int32} {J : Nat → Nat → Int64} (h : rI T I) (hw : zWf T) : ∃ I', rI T I' ∧ oR I I' J J ∧ jcall (d + 15) 241 [.ref 117] (jGs L g, I, J) = some (some (.int (zCa (zR T.2.2.2.1).1 T.2.2.2.2.2.2.1)), (jGs L g, I', J)) := by
  obtain ⟨I', a1, a2, a3, a4⟩ := r_ft d L g (J := J) h hw
  refine ⟨I', a1, a2, ?_⟩
  rw [c_TextValuesModel_caught, e_TextValuesModel_caught_0, a4, jcV_some, e_TextValuesModel_caught_4]
  have a5 := a3.1
  cases ho : (zR T.2.2.2.1).1 with
  | none =>
    rw [ho] at a5
    rcases a5 with ⟨e1, e2⟩ | ⟨V', e1, e2, e3⟩
    · rw [e_TextValuesModel_caught_8, jif_f (by decide), show jin (48 : Int32) 56 = true from jin_nI (n := 48) (by omega) (by omega), cond_true, show (48 : Int32).toNatClampNeg = 48 from rfl, e2, jif_f (by decide), e_TextValuesModel_caught_64]; rfl
    · cases e1
  | some V =>
    rw [ho] at a5
    exact r_cg (d + 11) L g a5 a1.2.2.2.2.2.2.1 4 0 0 (by omega)
theorem ok_caught : okV false 142 241 [] := by
  intro L T su sr sa PC PQ g I J h hw h1 h2
  obtain ⟨g1, I1, J1, sr1, PC1, PQ1, c1, c2, c3, c4, c5, c6⟩ := c_rfK h hw h1 h2 (fun S1 => jval 39 142 11 [.ref 1] [] S1)
  refine ⟨.int (zCa (zR T.2.2.2.1).1 T.2.2.2.2.2.2.1), T, ⟨_, rfl⟩, hw, ⟨su, sr1, sa, PC1, PQ1, g1, I1, J1, c1, by omega, by omega, c4, ?_⟩, fun g I J hr => ?_⟩
  · rw [c_TextValues_caught, e_TextValues_caught_0]
    refine c6.trans ?_
    show jval 39 142 11 [.ref 1] [] (jGs L g1, I1, J1) = _
    rw [e_TextValues_caught_11, c_caughtNow 36 L g1 c5.1 c1.2.2.2.2.2.1, jcI_some, e_TextValues_caught_15]
  · obtain ⟨I', a1, a2, a3⟩ := r_caught 25 L g (J := J) hr hw
    exact ⟨I', J, a1, a2, a3⟩
/-! the digest -/
def dgF (v : Nat → Int32) : Nat → Nat → Int64 → Int64
  | 0, _, l => l
  | f + 1, i, l => dgF v f (i + 1) ((31 : Int64) * l + (v i).toInt64)
def dgA (v : Nat → Nat → Int32) (m : Nat) : Nat → Nat → Int64 → Int64
  | 0, _, l => l
  | f + 1, i, l => dgA v m f (i + 1) (dgF (v i) m 0 l)
noncomputable def zLw (z : zS) (v w : Nat) : Int32 := match zLg z v with
  | none => 0
  | some A => dsc A w
noncomputable def zDg (T : zT) : Int64 := (31 : Int64) * ((31 : Int64) * dgA (zAl T.2.2.2.1) 3 (zq T.2.2.2.1 117 42) 0 (dgA (zLw T.2.2.2.1) 5 (if (zR T.2.2.2.1).1.isSome = true then 8 else 4) (if (zR T.2.2.2.1).1.isSome = true then 0 else 4) (dgF (zCt T.2.2.2.1) 4 0 (dgF (zTd T) 7 0 1815))) + (zCa (zR T.2.2.2.1).1 T.2.2.2.2.2.2.1).toInt64) + (nI T.2.2.2.2.2.2.2).toInt64

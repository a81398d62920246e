/-! RUNS, THE CLASS: all of a run -/
set_option maxRecDepth 100000
theorem e_rblk (d L : Nat) (g : jG) (I : Nat → Nat → Int32) (J : Nat → Nat → Int64) (x : Option Nat) (k : Int32) : jcall (d + 1) 89 [.ref 111, jvo x, .int k] (jGs L g, I, J) = jval d 89 2 [.ref 111, jjunk, .int k, jvo x, jjunk] [] (jGs L g, I, J) := by
  cases x with
  | none => exact (show jcall (d + 1) 89 [.ref 111, .null, .int k] (jGs L g, I, J) = jval d 89 0 [.ref 111, .null, .int k, jjunk, jjunk] [] (jGs L g, I, J) from rfl).trans ((jgo ps_Runner_block 400 d 0 _ _ _ rfl rfl rfl rfl rfl).trans rfl)
  | some a => exact (c_Runner_block d a k _).trans (e_Runner_block_0 d L g I J a k)
theorem jo_rnx {d : Nat} {x : Option Nat} {k : Int32} {S : jS} : jo x (jval d 89 2 [.ref 111, jjunk, .int k, .null, jjunk] [] S) (fun b => jval d 89 2 [.ref 111, jjunk, .int k, .ref b, jjunk] [] S) = jval d 89 2 [.ref 111, jjunk, .int k, jvo x, jjunk] [] S := by
  cases x <;> rfl
theorem jo_rbl {d : Nat} {x : Option Nat} {k : Int32} {S : jS} {K : jS → Option (Option Value × jS)} : jo x (jcV (jcall d 89 [.ref 111, .null, .int k] S) K) (fun b => jcV (jcall d 89 [.ref 111, .ref b, .int k] S) K) = jcV (jcall d 89 [.ref 111, jvo x, .int k] S) K := by
  cases x <;> rfl
theorem jo_173 {d L : Nat} {g : jG} {I : Nat → Nat → Int32} {J : Nat → Nat → Int64} {x : Option Nat} {k : Int32} {n : Nat} : jo x (jval d 89 173 [.ref 111, jjunk, .int k, .ref n, jjunk] [.null, .ref 111] (jGs L g, I, J)) (fun b => jval d 89 173 [.ref 111, jjunk, .int k, .ref n, jjunk] [.ref b, .ref 111] (jGs L g, I, J)) = jcV (jcall d 89 [.ref 111, jvo x, .int (k + 1)] (jGs L g, I, J)) (fun S1 => jval d 89 179 [.ref 111, jjunk, .int k, .ref n, jjunk] [] S1) := by
  cases x with
  | none => exact e_Runner_block_173 ..
  | some b => exact e_Runner_block_173a ..
theorem jo_202 {d L : Nat} {g : jG} {I : Nat → Nat → Int32} {J : Nat → Nat → Int64} {x : Option Nat} {k : Int32} {n : Nat} : jo x (jval d 89 202 [.ref 111, jjunk, .int k, .ref n, jjunk] [.null, .ref 111] (jGs L g, I, J)) (fun b => jval d 89 202 [.ref 111, jjunk, .int k, .ref n, jjunk] [.ref b, .ref 111] (jGs L g, I, J)) = jcV (jcall d 89 [.ref 111, jvo x, .int (k + 1)] (jGs L g, I, J)) (fun S1 => jval d 89 208 [.ref 111, jjunk, .int k, .ref n, jjunk] [] S1) := by
  cases x with
  | none => exact e_Runner_block_202 ..
  | some b => exact e_Runner_block_202a ..
theorem nd_w {L : Nat} {q : Nat → Nat → Nat} {g : jG} {I I1 : Nat → Nat → Int32} {J J1 : Nat → Nat → Int64} (hf : eWr I I1 J J1) {f k lo a b B : Nat} {x : Option Nat} (hlo : 170 ≤ lo) (h : nd L q g I B f k lo x a b) : nd L q g I1 B f k lo x a b :=
  nd_k (Nat.le_refl _) f k lo x a b (fun n y1 _ _ => ⟨fun k => hf.1 n k (by unfold wX; omega), rfl, rfl, rfl, rfl⟩) h
theorem nS_w {q : Nat → Nat → Nat} {I I1 : Nat → Nat → Int32} {J J1 : Nat → Nat → Int64} (hf : eWr I I1 J J1) {n a : Nat} (hn : 171 ≤ n) (h : nS q I n a) : nS q I1 n a := by
  have e : I1 n = I n := by
    funext j
    exact hf.1 n j (by unfold wX; omega)
  unfold nS
  rw [e]
  exact h
theorem cU_C {s : uS} {I : Nat → Nat → Int32} {J : Nat → Nat → Int64} (h : cU s I J) (h1 : s.2.1 < 100) : cU (uC s) (ju I 111 3 (nI (s.2.1 + 1))) J := by
  obtain ⟨u1, u2, u3, u4, u5⟩ := h
  refine ⟨u1, ⟨zu_at _ _ _ _, by show s.2.1 + 1 ≤ 100; omega⟩, by rw [zu_k (by omega)]; exact u3, ⟨by rw [zu_k (by omega)]; exact u4.1, by show s.2.2.1 ≤ s.2.1 + 1; have := u4.2; omega⟩, uT_cg u5 (fun j => zu_a (by omega)) (fun j => zu_a (by omega))⟩
theorem eWr_1 (I : Nat → Nat → Int32) (J : Nat → Nat → Int64) {j : Nat} (hj : j ≠ 12) (x : Int32) : eWr I (ju I 111 j x) J J := ⟨fun a y hx => ju_ne (by unfold wX at hx; omega), fun _ _ => rfl⟩
section CC
variable (L : Nat) {q : Nat → Nat → Nat} {P : Nat → kA} {D W su sr F : Nat}
/-- a test -/
theorem c_ts (d : Nat) (g : jG) {I : Nat → Nat → Int32} {J : Nat → Nat → Int64} {n a : Nat} {s : uS} (hV : cV L q P D W su sr F g I J) (hU : cU s I J) (kn : gK L g n = 4) (hn : nS q I n a) (hb : bS q a) (h4 : 4 ≤ q 138 a) (h7 : q 138 a ≤ 7) : ∃ J', eWr I I J J' ∧ cU (uTs q P a s).2 I J' ∧ (q 138 a = 4 ∨ q 138 a = 6 → jcall (d + 3) 95 [.ref 111, .ref n] (jGs L g, I, J) = some (some (.int (bI (uTs q P a s).1)), (jGs L g, I, J'))) ∧ (q 138 a = 5 → ∃ z, z < 2 ∧ (z = 0 ↔ (uTs q P a s).1 = true) ∧ jcall (d + 3) 92 [.ref 111, .int (2 : Int32)] (jGs L g, I, J) = some (some (.int (nI z)), (jGs L g, I, J'))) ∧ (q 138 a = 7 → ∃ z, z < 3 ∧ (z ≠ 0 ↔ (uTs q P a s).1 = true) ∧ jcall (d + 3) 92 [.ref 111, .int (3 : Int32)] (jGs L g, I, J) = some (some (.int (nI z)), (jGs L g, I, J'))) := by
  obtain ⟨u1, u2, u3, u4, u5⟩ := hU
  unfold uTs
  by_cases hk : q 138 a = 4 ∨ q 138 a = 6
  · rw [if_pos hk]
    obtain ⟨v4, w4⟩ := hb.2.2.2 hk
    obtain ⟨n1, n2⟩ := hn.2.2.2.2 hk
    exact ⟨J, eWr_r I J, ⟨u1, u2, u3, u4, u5⟩, fun _ => c_passes d L g hV u5 kn n1 n2 v4 w4, fun h => by omega, fun h => by omega⟩
  · rw [if_neg hk]
    have E : eWr I I J (ju J 111 2 (lN (uDr s.1))) := ⟨fun _ _ _ => rfl, fun a ha => ju_n ha⟩
    have U2 : cU (uDr s.1, s.2) I (ju J 111 2 (lN (uDr s.1))) := ⟨⟨zu_at _ _ _ _, uDr_lt _⟩, u2, u3, u4, u5⟩
    by_cases h5 : q 138 a = 5
    · rw [if_pos h5]
      refine ⟨_, E, U2, fun h => absurd h hk, fun _ => ⟨_, Nat.mod_lt _ (by omega), ?_, c_draw (d + 2) L g (n := 2) u1.2 u1.1 (by omega) (by omega)⟩, fun h => by omega⟩
      show _ ↔ decide _ = true
      rw [decide_eq_true_iff]
    · rw [if_neg h5]
      refine ⟨_, E, U2, fun h => absurd h hk, fun h => absurd h h5, fun _ => ⟨_, Nat.mod_lt _ (by omega), ?_, c_draw (d + 2) L g (n := 3) u1.2 u1.1 (by omega) (by omega)⟩⟩
      show _ ↔ decide _ = true
      rw [decide_eq_true_iff]
theorem c_cs_l (d : Nat) (g : jG) {I : Nat → Nat → Int32} {J : Nat → Nat → Int64} (h4 : I 111 4 = 1) : ∃ I', eWr I I' J J ∧ I' 111 4 = 1 ∧ jcall (d + 1) 90 [.ref 111] (jGs L g, I, J) = some (some (.int (0 : Int32)), (jGs L g, I', J)) := by
  rw [c_Runner_countStep, e_Runner_countStep_0]
  by_cases h : I 111 3 < (100 : Int32)
  · refine ⟨_, eWr_1 I J (j := 3) (by omega) (I 111 3 + 1), by rw [zu_k (by omega)]; exact h4, ?_⟩
    rw [jif_t h, e_Runner_countStep_27, jif_f (by rw [zu_k (by omega), h4]; decide), e_Runner_countStep_39, jif_t (Or.inl rfl)]
  · refine ⟨_, eWr_1 I J (j := 4) (by omega) 1, zu_at _ _ _ _, ?_⟩
    rw [jif_f h, jif_t (Or.inr rfl), e_Runner_countStep_27, jif_f (by rw [zu_at]; decide), e_Runner_countStep_39, jif_t (Or.inl rfl)]
/-- what a block does -/
def rbd (L : Nat) (q : Nat → Nat → Nat) (P : Nat → kA) (D W su sr F : Nat) (d : Nat) (g : jG) (k : Nat) (x : Option Nat) (X : (Nat → Nat → Int32) → Prop) (B : uS → Option uS) : Prop := ∀ s (I : Nat → Nat → Int32) (J : Nat → Nat → Int64), cV L q P D W su sr F g I J → cU s I J → X I → ∃ I' J', eWr I I' J J' ∧ cUo (B s) I' J' ∧ jcall d 89 [.ref 111, jvo x, .int (nI (k + 1))] (jGs L g, I, J) = some (none, (jGs L g, I', J'))
theorem c_rlp (d : Nat) (g : jG) {k n a : Nat} {x : Option Nat} {X : (Nat → Nat → Int32) → Prop} {B : uS → Option uS} (hx : gR L g n 4 = x) (h169 : 171 ≤ n) (kn : gK L g n = 4) (hb : bS q a) (hkd : q 138 a = 6 ∨ q 138 a = 7) (hBn : ∀ s s', B s = some s' → s.2.1 ≤ s'.2.1) (sX : ∀ I I' J J', eWr I I' J J' → X I → X I') (hbd : rbd L q P D W su sr F (d + 4) g k x X B) : ∀ m i s (I : Nat → Nat → Int32) (J : Nat → Nat → Int64), i + m = 101 → 101 ≤ m + s.2.1 → cV L q P D W su sr F g I J → cU s I J → nS q I n a → X I → ∃ I' J', eWr I I' J J' ∧ cUo (uLoop B (uTs q P a) m s) I' J' ∧ jval (d + 4) 91 5 [.ref 111, .ref n, .int (nI k), .int (1 : Int32), .int (nI i)] [] (jGs L g, I, J) = some (none, (jGs L g, I', J')) := by
  intro m
  induction m with
  | zero =>
    intro i s I J hi hm hV hU
    have := hU.2.1.2
    omega
  | succ m ih =>
    intro i s I J hi hm hV hU hn hX
    have k4 : (jGs L g).1 n = 4 := kn
    have h100 := hU.2.1.2
    have hcs := c_countStep (d + 3) L g (J := J) hU.2.1.1 hU.2.2.1 h100
    have start : jval (d + 4) 91 5 [.ref 111, .ref n, .int (nI k), .int (1 : Int32), .int (nI i)] [] (jGs L g, I, J) = jcI (jcall (d + 4) 90 [.ref 111] (jGs L g, I, J)) (fun r2 S1 => jval (d + 4) 91 20 [.ref 111, .ref n, .int (nI k), jjunk, .int (nI i)] [.int r2] S1) := by
      rw [e_Runner_loop_5, jif_f (show ¬ (100 : Int32) < nI i from fun e => by have := Eq.mp (zi_lt (a := 100) (by omega) (by omega)) e; omega), jif_f (by decide)]
    rw [start, hcs]
    unfold uLoop
    by_cases h : 100 ≤ s.2.1
    · rw [if_pos h, if_neg (by omega), jcI_some, e_Runner_loop_20, jif_t rfl, e_Runner_loop_75]
      exact ⟨_, J, eWr_1 I J (by omega) 1, zu_at _ _ _ _, rfl⟩
    · have U1 := cU_C hU (show s.2.1 < 100 by omega)
      have E1 := eWr_1 I J (j := 3) (by omega) (nI (s.2.1 + 1))
      have V1 := cV_f hV E1
      have N1 := nS_w E1 h169 hn
      have X1 := sX _ _ _ _ E1 hX
      have en : (uTs q P a (uC s)).2.2.1 = s.2.1 + 1 := by rw [uTs_n]; rfl
      rw [if_neg h, if_pos (show s.2.1 < 100 by omega), jcI_some, e_Runner_loop_20, jif_f (by decide), if_pos k4, N1.1]
      generalize ju I 111 3 (nI (s.2.1 + 1)) = I1 at *
      obtain ⟨J1, t1, t2, t3, t4, t5⟩ := c_ts L (d + 1) g V1 U1 kn N1 hb (by omega) (by omega)
      have V2 := cV_f V1 t1
      have e53 : (jif (nI (sgO (q 138 a)) = (35 : Int32)) (jcI (jcall (d + 4) 95 [.ref 111, .ref n] (jGs L g, I1, J)) (fun r2 S1 => jval (d + 4) 91 37 [.ref 111, .ref n, .int (nI k), jjunk, .int (nI i)] [.int r2] S1)) (jcI (jcall (d + 4) 92 [.ref 111, .int (3 : Int32)] (jGs L g, I1, J)) (fun r4 S3 => jval (d + 4) 91 45 [.ref 111, .ref n, .int (nI k), jjunk, .int (nI i)] [.int r4] S3))) = jval (d + 4) 91 53 [.ref 111, .ref n, .int (nI k), jjunk, .int (nI i)] [.int (bI (uTs q P a (uC s)).1)] (jGs L g, I1, J1) := by
        rcases hkd with e | e
        · rw [e, jif_t (by decide), t3 (Or.inr e), jcI_some, e_Runner_loop_37]
        · obtain ⟨z, z1, z2, z3⟩ := t5 e
          rw [e, jif_f (by decide), z3, jcI_some, e_Runner_loop_45]
          by_cases hz : z = 0
          · have hf : (uTs q P a (uC s)).1 = false := by
              cases hh : (uTs q P a (uC s)).1 with
              | false => rfl
              | true => exact absurd hz (z2.mpr hh)
            rw [hz, jif_t (by decide), hf]; rfl
          · rw [jif_f (show ¬ nI z = (0 : Int32) from fun e => hz ((nI_eq (b := 0) (by omega) (by omega)).mp e)), z2.mp hz]; rfl
      rw [e53, e_Runner_loop_53]
      by_cases ht : (uTs q P a (uC s)).1 = true
      · rw [ht, if_pos rfl, jif_f (by decide), if_pos k4, jo_rbl, show (jGs L g).2.2.1 n 4 = x from hx, nI_1]
        obtain ⟨I2, J2, b1, b2, b3⟩ := hbd _ I1 J1 V2 t2 X1
        have E2 := eWr_t E1 (eWr_t t1 b1)
        rw [b3, jcV_some, e_Runner_loop_69, nI_1, show bI true = (1 : Int32) from rfl]
        cases hB : B (uTs q P a (uC s)).2 with
        | none =>
          rw [hB] at b2
          have b2' : I2 111 4 = 1 := b2
          show ∃ I' J', _ ∧ cUo none I' J' ∧ _
          rw [e_Runner_loop_5]
          by_cases hi' : 100 < i + 1
          · rw [jif_t (show (100 : Int32) < nI (i + 1) from Eq.mpr (zi_lt (a := 100) (by omega) (by omega)) hi'), e_Runner_loop_75]
            exact ⟨I2, J2, E2, b2, rfl⟩
          · obtain ⟨I3, c1, c2, c3⟩ := c_cs_l L (d + 3) g (J := J2) b2'
            rw [jif_f (show ¬ (100 : Int32) < nI (i + 1) from fun e => hi' (Eq.mp (zi_lt (a := 100) (by omega) (by omega)) e)), jif_f (by decide), c3, jcI_some, e_Runner_loop_20, jif_t rfl, e_Runner_loop_75]
            exact ⟨I3, J2, eWr_t E2 c1, c2, rfl⟩
        | some s1 =>
          rw [hB] at b2
          have := hBn _ _ hB
          obtain ⟨I', J', c1, c2, c3⟩ := ih (i + 1) s1 I2 J2 (by omega) (by omega) (cV_f V2 b1) b2 (nS_w b1 h169 (nS_w t1 h169 N1)) (sX _ _ _ _ b1 (sX _ _ _ _ t1 X1))
          exact ⟨I', J', eWr_t E2 c1, c2, c3⟩
      · have hf : (uTs q P a (uC s)).1 = false := Bool.eq_false_iff.mpr ht
        rw [hf, if_neg (by decide), jif_t (by decide), e_Runner_loop_69, nI_1, e_Runner_loop_5, show bI false = (0 : Int32) from rfl]
        refine ⟨I1, J1, eWr_t E1 t1, t2, ?_⟩
        by_cases hi' : 100 < i + 1
        · rw [jif_t (show (100 : Int32) < nI (i + 1) from Eq.mpr (zi_lt (a := 100) (by omega) (by omega)) hi'), e_Runner_loop_75]
        · rw [jif_f (show ¬ (100 : Int32) < nI (i + 1) from fun e => hi' (Eq.mp (zi_lt (a := 100) (by omega) (by omega)) e)), jif_t rfl, e_Runner_loop_75]
theorem c_rb_56 (d : Nat) (g : jG) {I : Nat → Nat → Int32} {J : Nat → Nat → Int64} {n k s : Nat} (kn : gK L g n = 4) (h0 : I n 0 = nI (sgO s)) (h1 : 1 ≤ s) (h7 : s ≤ 7) : jval d 89 56 [.ref 111, jjunk, .int (nI k), .ref n, jjunk] [] (jGs L g, I, J) = jval d 89 (if s = 1 then 112 else if s = 2 then 120 else if s = 3 then 128 else if s = 4 then 153 else if s = 5 then 182 else 211) [.ref 111, jjunk, .int (nI k), .ref n, jjunk] [] (jGs L g, I, J) := by
  rw [e_Runner_block_56, if_pos (show (jGs L g).1 n = 4 from kn), h0]
  have hc : s = 1 ∨ s = 2 ∨ s = 3 ∨ s = 4 ∨ s = 5 ∨ s = 6 ∨ s = 7 := by omega
  rcases hc with e | e | e | e | e | e | e <;> subst e
  · rw [jif_f (by decide), jif_f (by decide), jif_f (by decide), jif_t (by decide)]; rfl
  · rw [jif_f (by decide), jif_f (by decide), jif_t (by decide)]; rfl
  · rw [jif_t (by decide)]; rfl
  · rw [jif_f (by decide), jif_f (by decide), jif_f (by decide), jif_f (by decide), jif_t (by decide)]; rfl
  · rw [jif_f (by decide), jif_t (by decide)]; rfl
  · rw [jif_f (by decide), jif_f (by decide), jif_f (by decide), jif_f (by decide), jif_f (by decide)]; rfl
  · rw [jif_f (by decide), jif_f (by decide), jif_f (by decide), jif_f (by decide), jif_f (by decide)]; rfl
theorem c_run (g : jG) : ∀ f e k lo x a b s (I : Nat → Nat → Int32) (J : Nat → Nat → Int64) (d : Nat), e + k = 5 → nd L q g I g.2.2.2.1 f k lo x a b → 170 ≤ lo → b ≤ q 117 35 → cV L q P D W su sr F g I J → cU s I J → ∃ I' J', eWr I I' J J' ∧ cUo (uBlk q P f a b s) I' J' ∧ jval (d + 2 * e + 9) 89 2 [.ref 111, jjunk, .int (nI k), jvo x, jjunk] [] (jGs L g, I, J) = some (none, (jGs L g, I', J')) := by
  intro f
  induction f with
  | zero =>
    intro e k lo x a b s I J d hek h hlo hb hV hU
    obtain ⟨e1, -⟩ := h
    subst e1
    refine ⟨I, J, eWr_r I J, hU, ?_⟩
    show jval (d + 2 * e + 9) 89 2 [.ref 111, jjunk, .int (nI k), .null, jjunk] [] _ = _
    rw [e_Runner_block_2a, e_Runner_block_225]
  | succ f ih =>
    intro e k lo x a b s I J d hek h hlo hb hV hU
    rcases h with ⟨e1, e2⟩ | ⟨n, j, h1, h2, h3, h4, h5, h6, h7, h8, h9, h10⟩
    · subst e1
      subst e2
      unfold uBlk
      rw [if_pos rfl]
      refine ⟨I, J, eWr_r I J, hU, ?_⟩
      show jval (d + 2 * e + 9) 89 2 [.ref 111, jjunk, .int (nI k), .null, jjunk] [] _ = _
      rw [e_Runner_block_2a, e_Runner_block_225]
    subst h1
    have hab : a ≠ b := by omega
    have n169 : 171 ≤ n := by omega
    have k4 : (jGs L g).1 n = 4 := h4
    have h17 : 1 ≤ q 138 a ∧ q 138 a ≤ 7 := by
      rcases h9 with ⟨y1, y2, -⟩ | ⟨-, y2, -⟩ | ⟨-, y2, -⟩ <;> omega
    have u4 := hU.2.2.1
    -- what follows
    have next : ∀ r (I1 : Nat → Nat → Int32) (J1 : Nat → Nat → Int64), eWr I I1 J J1 → cUo r I1 J1 → ∃ I' J', eWr I I' J J' ∧ cUo (r.bind (uBlk q P f j b)) I' J' ∧ jval (d + 2 * e + 9) 89 217 [.ref 111, jjunk, .int (nI k), .ref n, jjunk] [] (jGs L g, I1, J1) = some (none, (jGs L g, I', J')) := by
      intro r I1 J1 E1 C1
      have r6 : (jGs L g).2.2.1 n 6 = g.2.2.1 n 6 := gR_dyn (jr0_dyn (by omega) 6)
      cases r with
      | none =>
        have C1' : I1 111 4 = 1 := C1
        refine ⟨I1, J1, E1, C1, ?_⟩
        rw [e_Runner_block_217, if_pos k4, jo_rnx]
        cases hx : (jGs L g).2.2.1 n 6 with
        | none =>
          show jval (d + 2 * e + 9) 89 2 [.ref 111, jjunk, .int (nI k), .null, jjunk] [] _ = _
          rw [e_Runner_block_2a, e_Runner_block_225]
        | some b1 =>
          show jval (d + 2 * e + 9) 89 2 [.ref 111, jjunk, .int (nI k), .ref b1, jjunk] [] _ = _
          rw [e_Runner_block_2, jif_f (by rw [C1']; decide), e_Runner_block_225]
      | some s1 =>
        obtain ⟨I', J', c1, c2, c3⟩ := ih e k n _ j b s1 I1 J1 d hek (nd_w E1 (by omega) h10) (by omega) hb (cV_f hV E1) C1
        refine ⟨I', J', eWr_t E1 c1, c2, ?_⟩
        rw [e_Runner_block_217, if_pos k4, jo_rnx, r6]
        exact c3
    show ∃ I' J', _ ∧ _ ∧ jval (d + 2 * e + 9) 89 2 [.ref 111, jjunk, .int (nI k), .ref n, jjunk] [] _ = _
    have hk5 : ¬ (5 : Int32) < nI k := fun e => by have := Eq.mp (zi_lt (a := 5) (by omega) (by omega)) e; omega
    -- where the step is counted
    have counted : q 138 a ≤ 5 → jval (d + 2 * e + 9) 89 2 [.ref 111, jjunk, .int (nI k), .ref n, jjunk] [] (jGs L g, I, J) = if s.2.1 < 100 then jval (d + 2 * e + 9) 89 56 [.ref 111, jjunk, .int (nI k), .ref n, jjunk] [] (jGs L g, ju I 111 3 (nI (s.2.1 + 1)), J) else some (none, (jGs L g, ju I 111 4 1, J)) := by
      intro h5'
      have hsg : ¬ nI (sgO (q 138 a)) = (35 : Int32) ∧ ¬ nI (sgO (q 138 a)) = (42 : Int32) := by
        have hc : q 138 a = 1 ∨ q 138 a = 2 ∨ q 138 a = 3 ∨ q 138 a = 4 ∨ q 138 a = 5 := by omega
        rcases hc with e | e | e | e | e <;> rw [e] <;> decide
      rw [e_Runner_block_2, jif_t u4, jif_f hk5, if_pos k4, h5.1, jif_f hsg.1, if_pos k4, jif_f hsg.2, e_Runner_block_41, jif_t rfl, c_countStep (d + 2 * e + 8) L g hU.2.1.1 u4 hU.2.1.2]
      by_cases h : s.2.1 < 100
      · rw [if_pos h, if_pos h, jcI_some, e_Runner_block_52, jif_f (by decide)]
      · rw [if_neg h, if_neg h, jcI_some, e_Runner_block_52, jif_t rfl]
    have E1 := eWr_1 I J (j := 3) (by omega) (nI (s.2.1 + 1))
    rcases h9 with ⟨y1, y2, y3⟩ | ⟨y1, y2, en, y3, y4, y5, y6⟩ | ⟨y1, y2, c, en, y3, y4, y5, y6, y7, y8⟩
    · subst y3
      have eb : uBlk q P (f + 1) a b s = (if 100 ≤ s.2.1 then none else uS1 q P a (uC s)).bind (uBlk q P f (a + 1) b) := by
        conv => lhs; unfold uBlk
        rw [if_neg hab, if_pos y2]
        split <;> rfl
      rw [eb, counted (by omega)]
      by_cases h : s.2.1 < 100
      · rw [if_pos h, if_neg (by omega)]
        have U1 := cU_C hU h
        have V1 := cV_f hV E1
        have N1 := nS_w E1 n169 h5
        rw [c_rb_56 L (d + 2 * e + 9) g h4 N1.1 h17.1 h17.2]
        have hc : q 138 a = 1 ∨ q 138 a = 2 ∨ q 138 a = 3 := by omega
        rcases hc with ek | ek | ek
        · obtain ⟨I2, J2, b1, b2, b3⟩ := c_st (d + 2 * e + 1) L g V1 U1 h4 n169 N1 h6 y1 (by omega)
          rw [if_pos ek] at b3 ⊢
          obtain ⟨I', J', c1, c2, c3⟩ := next _ I2 J2 (eWr_t E1 b1) b2
          exact ⟨I', J', c1, c2, by rw [e_Runner_block_112, b3, jcV_some, e_Runner_block_117]; exact c3⟩
        · obtain ⟨I2, J2, b1, b2, b3⟩ := c_st (d + 2 * e + 1) L g V1 U1 h4 n169 N1 h6 y1 (by omega)
          rw [if_neg (by omega)] at b3
          rw [if_neg (by omega), if_pos ek]
          obtain ⟨I', J', c1, c2, c3⟩ := next _ I2 J2 (eWr_t E1 b1) b2
          exact ⟨I', J', c1, c2, by rw [e_Runner_block_120, b3, jcV_some, e_Runner_block_125]; exact c3⟩
        · rw [if_neg (by omega), if_neg (by omega), if_pos ek]
          obtain ⟨v4, w4, -⟩ := h6.2.2.1 ek
          obtain ⟨n1, n2, -⟩ := N1.2.2.2.1 ek
          have hp := c_passes (d + 2 * e + 6) L g (J := J) V1 U1.2.2.2.2 h4 n1 n2 v4 w4
          obtain ⟨z1, z2, z3, z4, z5⟩ := U1
          generalize hb' : kL (P (q 140 a)) 0 ((uC s).2.2.2 (q 139 a)) = bb at *
          have C2 : cUo (uS1 q P a (uC s)) (ju (ju I 111 3 (nI (s.2.1 + 1))) 111 5 (nI (s.2.2.1 + (if bb = true then 1 else 0)))) J := by
            unfold uS1
            rw [if_neg (by omega), if_neg (by omega), hb']
            refine ⟨z1, ⟨by rw [zu_k (by omega)]; exact z2.1, z2.2⟩, by rw [zu_k (by omega)]; exact z3, ⟨zu_at _ _ _ _, ?_⟩, uT_cg z5 (fun j => zu_a (by omega)) (fun j => zu_a (by omega))⟩
            show s.2.2.1 + (if _ then 1 else 0) ≤ s.2.1 + 1
            have := hU.2.2.2.1.2
            split <;> omega
          obtain ⟨I', J', c1, c2, c3⟩ := next _ _ J (eWr_t E1 (eWr_1 _ J (j := 5) (by omega) _)) C2
          refine ⟨I', J', c1, c2, ?_⟩
          rw [e_Runner_block_128, hp, jcI_some, e_Runner_block_138, z4.1, ← c3]
          cases bb with
          | true => rw [jif_f (by decide), e_Runner_block_146, nI_1]; rfl
          | false => rw [jif_t (by decide), e_Runner_block_146, show (0 : Int32) = nI 0 from rfl, nI_add]; rfl
      · rw [if_neg h, if_pos (by omega)]
        exact ⟨_, J, eWr_1 I J (by omega) 1, zu_at _ _ _ _, rfl⟩
    · subst y5
      obtain ⟨e', rfl⟩ : ∃ e', e = e' + 1 := ⟨e - 1, by omega⟩
      have e1 : q 142 a - 1 = en := by have := y3.1; omega
      have eb : uBlk q P (f + 1) a b s = (uLoop (uBlk q P f (a + 1) en) (uTs q P a) 101 s).bind (uBlk q P f (en + 1) b) := by
        conv => lhs; unfold uBlk
        rw [if_neg hab, if_neg (by omega), if_neg (by omega), e1]
      have e211 : (if q 138 a = 1 then 112 else if q 138 a = 2 then 120 else if q 138 a = 3 then 128 else if q 138 a = 4 then 153 else if q 138 a = 5 then 182 else 211) = 211 := by rcases y2 with e | e <;> rw [e] <;> rfl
      have start : jval (d + 2 * (e' + 1) + 9) 89 2 [.ref 111, jjunk, .int (nI k), .ref n, jjunk] [] (jGs L g, I, J) = jval (d + 2 * (e' + 1) + 9) 89 211 [.ref 111, jjunk, .int (nI k), .ref n, jjunk] [] (jGs L g, I, J) := by
        have e36 : jval (d + 2 * (e' + 1) + 9) 89 36 [.ref 111, jjunk, .int (nI k), .ref n, jjunk] [] (jGs L g, I, J) = jval (d + 2 * (e' + 1) + 9) 89 211 [.ref 111, jjunk, .int (nI k), .ref n, jjunk] [] (jGs L g, I, J) := by
          rw [e_Runner_block_36, e_Runner_block_41, jif_f (by decide), c_rb_56 L _ g h4 h5.1 h17.1 h17.2, e211]
        rw [e_Runner_block_2, jif_t u4, jif_f hk5, if_pos k4, h5.1, e36]
        rcases y2 with e | e
        · rw [e, jif_t (by decide)]
        · rw [e, jif_f (by decide), if_pos k4, jif_t (by decide)]
      obtain ⟨I1, J1, b1, b2, b3⟩ := c_rlp L (d + 2 * e' + 6) g (k := k) (x := g.2.2.1 n 4) (X := fun I' => nd L q g I' g.2.2.2.1 f (k + 1) n (g.2.2.1 n 4) (a + 1) en) (B := uBlk q P f (a + 1) en) (gR_dyn (jr0_dyn (by omega) 4)) n169 h4 h6 y2 (fun s s' h => uBlk_n q P _ _ _ _ _ h) (fun I I' J J' hf hX => nd_w hf (by omega) hX) (fun s1 I1 J1 V1 U1 hX => by
        obtain ⟨I', J', z1, z2, z3⟩ := ih e' (k + 1) n _ (a + 1) en s1 I1 J1 d (by omega) hX (by omega) (by omega) V1 U1
        refine ⟨I', J', z1, z2, ?_⟩
        rw [show d + 2 * e' + 6 + 4 = d + 2 * e' + 9 + 1 by omega, e_rblk]
        exact z3) 101 0 s I J (by omega) (by omega) hV hU h5 y6
      rw [eb, start]
      obtain ⟨I', J', c1, c2, c3⟩ := next _ I1 J1 b1 b2
      refine ⟨I', J', c1, c2, ?_⟩
      rw [e_Runner_block_211, show d + 2 * (e' + 1) + 9 = d + 2 * e' + 6 + 4 + 1 by omega, c_Runner_loop, e_Runner_loop_0, show (0 : Int32) = nI 0 from rfl, b3, jcV_some]
      exact c3
    · subst y6
      obtain ⟨e', rfl⟩ : ∃ e', e = e' + 1 := ⟨e - 1, by omega⟩
      obtain ⟨z1, z2, z3, z4, z5, z6, z7, z8⟩ := y3
      have e1 : q 142 a - 1 = c := by omega
      have e2 : q 142 c - 1 = en := by omega
      have eb : uBlk q P (f + 1) a b s = (if 100 ≤ s.2.1 then none else (if (uTs q P a (uC s)).1 = true then uBlk q P f (a + 1) c (uTs q P a (uC s)).2 else uBlk q P f (c + 1) en (uTs q P a (uC s)).2)).bind (uBlk q P f (en + 1) b) := by
        conv => lhs; unfold uBlk
        rw [if_neg hab, if_neg (by omega), if_pos y2, e1, e2]
        split <;> rfl
      rw [eb, counted (by omega)]
      by_cases h : s.2.1 < 100
      · rw [if_pos h, if_neg (by omega)]
        have U1 := cU_C hU h
        have V1 := cV_f hV E1
        have N1 := nS_w E1 n169 h5
        rw [c_rb_56 L _ g h4 N1.1 h17.1 h17.2]
        generalize hI1 : ju I 111 3 (nI (s.2.1 + 1)) = I1 at *
        obtain ⟨J1, t1, t2, t3, t4, t5⟩ := c_ts L (d + 2 * e' + 8) g V1 U1 h4 N1 h6 (by omega) (by omega)
        have E2 := eWr_t E1 t1
        have V2 := cV_f V1 t1
        -- the part that is run
        have part : ∃ I2 J2, eWr I I2 J J2 ∧ cUo (if (uTs q P a (uC s)).1 = true then uBlk q P f (a + 1) c (uTs q P a (uC s)).2 else uBlk q P f (c + 1) en (uTs q P a (uC s)).2) I2 J2 ∧ jcall (d + 2 * e' + 11) 89 [.ref 111, jvo (if (uTs q P a (uC s)).1 = true then g.2.2.1 n 4 else g.2.2.1 n 5), .int (nI (k + 1))] (jGs L g, I1, J1) = some (none, (jGs L g, I2, J2)) := by
          by_cases ht : (uTs q P a (uC s)).1 = true
          · rw [if_pos ht, if_pos ht]
            obtain ⟨I2, J2, w1, w2, w3⟩ := ih e' (k + 1) n _ (a + 1) c _ I1 J1 (d + 1) (by omega) (nd_w E2 (by omega) y7) (by omega) (by omega) V2 t2
            refine ⟨I2, J2, eWr_t E2 w1, w2, ?_⟩
            rw [show d + 2 * e' + 11 = d + 1 + 2 * e' + 9 + 1 by omega, e_rblk]
            exact w3
          · rw [if_neg ht, if_neg ht]
            obtain ⟨I2, J2, w1, w2, w3⟩ := ih e' (k + 1) n _ (c + 1) en _ I1 J1 (d + 1) (by omega) (nd_w E2 (by omega) y8) (by omega) (by omega) V2 t2
            refine ⟨I2, J2, eWr_t E2 w1, w2, ?_⟩
            rw [show d + 2 * e' + 11 = d + 1 + 2 * e' + 9 + 1 by omega, e_rblk]
            exact w3
        obtain ⟨I2, J2, p1, p2, p3⟩ := part
        have r4 : (jGs L g).2.2.1 n 4 = g.2.2.1 n 4 := gR_dyn (jr0_dyn (by omega) 4)
        have r5 : (jGs L g).2.2.1 n 5 = g.2.2.1 n 5 := gR_dyn (jr0_dyn (by omega) 5)
        obtain ⟨I', J', c1, c2, c3⟩ := next _ I2 J2 p1 p2
        refine ⟨I', J', c1, c2, ?_⟩
        rcases y2 with ek | ek
        · rw [ek]
          show jval (d + 2 * (e' + 1) + 9) 89 153 _ _ _ = _
          rw [e_Runner_block_153, show d + 2 * (e' + 1) + 9 = d + 2 * e' + 8 + 3 by omega, t3 (Or.inl ek), jcI_some, e_Runner_block_159, jo_173, jo_173, if_pos k4, if_pos k4, r4, r5, nI_1]
          rw [show d + 2 * (e' + 1) + 9 = d + 2 * e' + 8 + 3 by omega] at c3
          by_cases ht : (uTs q P a (uC s)).1 = true
          · rw [if_pos ht, show d + 2 * e' + 11 = d + 2 * e' + 8 + 3 by omega] at p3
            rw [ht, jif_f (by decide), p3, jcV_some, e_Runner_block_179]
            exact c3
          · rw [if_neg ht, show d + 2 * e' + 11 = d + 2 * e' + 8 + 3 by omega] at p3
            rw [Bool.eq_false_iff.mpr ht, jif_t (by decide), p3, jcV_some, e_Runner_block_179]
            exact c3
        · rw [ek]
          obtain ⟨z, w1, w2, w3⟩ := t4 ek
          show jval (d + 2 * (e' + 1) + 9) 89 182 _ _ _ = _
          rw [e_Runner_block_182, show d + 2 * (e' + 1) + 9 = d + 2 * e' + 8 + 3 by omega, w3, jcI_some, e_Runner_block_188, jo_202, jo_202, if_pos k4, if_pos k4, r4, r5, nI_1]
          rw [show d + 2 * (e' + 1) + 9 = d + 2 * e' + 8 + 3 by omega] at c3
          by_cases ht : (uTs q P a (uC s)).1 = true
          · rw [if_pos ht, show d + 2 * e' + 11 = d + 2 * e' + 8 + 3 by omega] at p3
            rw [w2.mpr ht, jif_t (by decide), p3, jcV_some, e_Runner_block_208]
            exact c3
          · rw [if_neg ht, show d + 2 * e' + 11 = d + 2 * e' + 8 + 3 by omega] at p3
            rw [jif_f (show ¬ nI z = (0 : Int32) from fun e => ht (w2.mp ((nI_eq (b := 0) (by omega) (by omega)).mp e))), p3, jcV_some, e_Runner_block_208]
            exact c3
      · rw [if_neg h, if_pos (by omega)]
        exact ⟨_, J, eWr_1 I J (by omega) 1, zu_at _ _ _ _, rfl⟩
end CC

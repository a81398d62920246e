/-! ANALYSIS, THE CLASS: cells, frames, states -/
set_option maxRecDepth 100000
/-- a cell that a setup may hold -/
def okS (a : Nat) : Prop := (3 ≤ a ∧ a ≤ 11) ∨ 171 ≤ a
theorem okc_S {a : Nat} (h : okc a) : okS a := by unfold okc at h; unfold okS; omega
theorem mkI_C {L g I PC PQ} (h : mkI L g I PC PQ) : 170 ≤ g.2.2.2.1 := by
  obtain ⟨kr, rr, sr, gr, fr, c, base, N, z1, z2, z3, z4, z5, z6, z7, z8, -⟩ := h
  exact z8
theorem mkO_K {L g I PC PQ} (hI : mkI L g I PC PQ) {a : Nat} (h1 : gK L g a ≠ 3) (h2 : gK L g a ≠ 14) (h3 : gK L g a ≠ 15) (h4 : gK L g a ≠ 16) : ¬ mkO g a := by
  obtain ⟨kr, rr, sr, gr, fr, c, base, N, z1, -⟩ := hI
  intro ho
  have hm := (mkO_iff z1).mp ho
  obtain ⟨-, -, -, -, -, k1, k2, k3, k4, k5, -⟩ := z1
  rcases hm with e | e | e | e | e | e | e | e | e | e | e
  · subst e; exact h1 rfl
  · subst e; exact h4 rfl
  · subst e; exact h4 rfl
  · subst e; exact h4 rfl
  · subst e; exact h4 rfl
  · subst e; exact h4 rfl
  · rw [e] at h3; exact h3 k1
  · rw [e] at h3; exact h3 k2
  · rw [e] at h3; exact h3 k3
  · rw [e] at h2; exact h2 k4
  · rw [e] at h2; exact h2 k5
/-- the maker's rows are no other static cell -/
def nM (g : jG) : Prop := ∀ a, a < 171 → (a < 19 ∨ 29 < a) → ¬ mkO g a
theorem mkI_I {L g I I' PC PQ} (h : mkI L g I PC PQ) (hI : ∀ a, mkO g a → I' a = I a) : mkI L g I' PC PQ := by
  obtain ⟨kr, rr, sr, gr, fr, c, base, N, z1, z2, z3, z4, z5, z6, z7, z8⟩ := h
  have e19 : I' 19 = I 19 := hI 19 (Or.inl rfl)
  have esr : I' sr = I sr := hI sr ((mkO_iff z1).mpr (by omega))
  exact ⟨kr, rr, sr, gr, fr, c, base, N, z1, z2, z3, by rw [e19]; exact z4, by rw [e19]; exact z5, z6, fun x hx => by rw [esr]; exact z7 x hx, z8⟩
theorem gR_cg {L : Nat} {g g' : jG} {a k : Nat} (h : g'.2.2.1 a k = g.2.2.1 a k) : gR L g' a k = gR L g a k := by
  unfold gR jGs
  dsimp only
  cases jr0 a k with
  | zero => exact h
  | succ v => rfl
/-- what the analysis may change, k braces deep -/
def zX (k sr a : Nat) : Prop := (15 ≤ a ∧ a ≤ 18) ∨ a = 39 ∨ a = 40 ∨ (42 ≤ a ∧ a ≤ 45) ∨ (47 ≤ a ∧ a ≤ 49) ∨ (51 + 12 * k ≤ a ∧ a ≤ 110) ∨ a = sr
def fZ (L k sr : Nat) (g g' : jG) (I I' : Nat → Nat → Int32) (J J' : Nat → Nat → Int64) : Prop := (∀ a, a ≤ g.2.2.2.1 → ¬ mkO g a → (¬ zX k sr a → I' a = I a ∧ J' a = J a) ∧ ¬ mkO g' a) ∧ (∀ a, a ≤ g.2.2.2.1 → gK L g' a = gK L g a ∧ gN L g' a = gN L g a) ∧ (∀ a k, a ≤ g.2.2.2.1 → a ≠ 19 → g'.2.2.1 a k = g.2.2.1 a k) ∧ g.2.2.2.1 ≤ g'.2.2.2.1
section FZ
variable {L k sr : Nat} {g g1 g2 : jG} {I I1 I2 : Nat → Nat → Int32} {J J1 J2 : Nat → Nat → Int64}
theorem fZ_t (h : fZ L k sr g g1 I I1 J J1) (h' : fZ L k sr g1 g2 I1 I2 J1 J2) : fZ L k sr g g2 I I2 J J2 := by
  obtain ⟨a1, a2, a3, a4⟩ := h
  obtain ⟨b1, b2, b3, b4⟩ := h'
  refine ⟨fun a ha hn => ?_, fun a ha => ?_, fun a k ha hk => ?_, by omega⟩
  · obtain ⟨c1, c2⟩ := a1 a ha hn
    obtain ⟨d1, d2⟩ := b1 a (by omega) c2
    exact ⟨fun hx => ⟨(d1 hx).1.trans (c1 hx).1, (d1 hx).2.trans (c1 hx).2⟩, d2⟩
  · exact ⟨(b2 a (by omega)).1.trans (a2 a ha).1, (b2 a (by omega)).2.trans (a2 a ha).2⟩
  · exact (b3 a k (by omega) hk).trans (a3 a k ha hk)
theorem fZ_w {k' : Nat} (h : fZ L k sr g g1 I I1 J J1) (hk : k' ≤ k) : fZ L k' sr g g1 I I1 J J1 := ⟨fun a ha hn => ⟨fun hx => (h.1 a ha hn).1 (fun hz => hx (by unfold zX at *; omega)), (h.1 a ha hn).2⟩, h.2⟩
theorem fZ_r : fZ L k sr g g I I J J := ⟨fun _ _ hn => ⟨fun _ => ⟨rfl, rfl⟩, hn⟩, fun _ _ => ⟨rfl, rfl⟩, fun _ _ _ _ => rfl, Nat.le_refl _⟩
theorem fZ_X {out : Nat} (h : fX L g g1 I I1 J J1 out) (ho : zX k sr out) : fZ L k sr g g1 I I1 J J1 := ⟨fun a ha hn => ⟨fun hx => (h.1 a ha hn).1 (fun e => hx (by rw [e]; exact ho)), (h.1 a ha hn).2⟩, h.2⟩
theorem fZ_o (h : ∀ a, ¬ zX k sr a → I1 a = I a ∧ J1 a = J a) : fZ L k sr g g I I1 J J1 := ⟨fun a _ hn => ⟨fun hx => h a hx, hn⟩, fun _ _ => ⟨rfl, rfl⟩, fun _ _ _ _ => rfl, Nat.le_refl _⟩
theorem nM_f (hn : nM g) (h : fZ L k sr g g1 I I1 J J1) (hC : 170 ≤ g.2.2.2.1) : nM g1 := fun a ha hb => (h.1 a (by omega) (hn a ha hb)).2
/-- a cell that is not changed -/
theorem fZ_R {PC PQ a : Nat} {A : kA} (hf : fZ L k sr g g1 I I1 J J1) (hI : mkI L g I PC PQ) (hA : cR L g I J a A) (haC : a ≤ g.2.2.2.1) (hx : ¬ zX k sr a) : cR L g1 I1 J1 a A := by
  have h1 := hf.1 a haC (mkI_no hI hA.1)
  exact cR_cg L g hA (hf.2.1 a haC).1 (h1.1 hx).1 (h1.1 hx).2
end FZ
/-- the nodes stay where nodes stay -/
theorem nd_k {L : Nat} {q : Nat → Nat → Nat} {g g' : jG} {I I' : Nat → Nat → Int32} {B B' : Nat} (hB : B ≤ B') : ∀ f k lo x a b, (∀ n, lo < n → n ≤ B → gK L g n = 4 → (∀ k, I' n k = I n k) ∧ gK L g' n = gK L g n ∧ g'.2.2.1 n 4 = g.2.2.1 n 4 ∧ g'.2.2.1 n 5 = g.2.2.1 n 5 ∧ g'.2.2.1 n 6 = g.2.2.1 n 6) → nd L q g I B f k lo x a b → nd L q g' I' B' f k lo x a b := by
  intro f
  induction f with
  | zero => intro k lo x a b _ h; exact h
  | succ f ih =>
    intro k lo x a b hs h
    rcases h with h | ⟨n, j, h1, h2, h3, h4, h5, h6, h7, h8, h9, h10⟩
    · exact Or.inl h
    · obtain ⟨e1, e2, e3, e4, e5⟩ := hs n h2 h3 h4
      have hs' : ∀ n', n < n' → n' ≤ B → gK L g n' = 4 → (∀ k, I' n' k = I n' k) ∧ gK L g' n' = gK L g n' ∧ g'.2.2.1 n' 4 = g.2.2.1 n' 4 ∧ g'.2.2.1 n' 5 = g.2.2.1 n' 5 ∧ g'.2.2.1 n' 6 = g.2.2.1 n' 6 := fun n' y1 y2 => hs n' (by omega) y2
      refine Or.inr ⟨n, j, h1, h2, by omega, by rw [e2]; exact h4, ?_, h6, h7, h8, ?_, by rw [e5]; exact ih _ _ _ _ _ hs' h10⟩
      · unfold nS
        rw [e1, e1, e1, e1]
        exact h5
      · rcases h9 with y | ⟨y1, y2, e, y3, y4, y5, y6⟩ | ⟨y1, y2, m, e, y3, y4, y5, y6, y7, y8⟩
        · exact Or.inl y
        · exact Or.inr (Or.inl ⟨y1, y2, e, y3, y4, y5, by rw [e3]; exact ih _ _ _ _ _ hs' y6⟩)
        · exact Or.inr (Or.inr ⟨y1, y2, m, e, y3, y4, y5, y6, by rw [e3]; exact ih _ _ _ _ _ hs' y7, by rw [e4]; exact ih _ _ _ _ _ hs' y8⟩)
/-- a state's cell -/
def stA (s : Nat) : Prop := s = 40 ∨ ∃ i, i < 10 ∧ s = 51 + 6 * i
theorem stA_f (L : Nat) (g : jG) {s : Nat} (h : stA s) : gK L g s = 10 ∧ gR L g s 0 = some (s + 1) ∧ gK L g (s + 1) = 17 ∧ gN L g (s + 1) = 4 ∧ ∀ v, v < 4 → gR L g (s + 1) v = some (s + 2 + v) ∧ gK L g (s + 2 + v) = 2 := by
  have hv4 : ∀ v, v < 4 → v = 0 ∨ v = 1 ∨ v = 2 ∨ v = 3 := fun v hv => by omega
  have hs : s = 40 ∨ s = 51 ∨ s = 57 ∨ s = 63 ∨ s = 69 ∨ s = 75 ∨ s = 81 ∨ s = 87 ∨ s = 93 ∨ s = 99 ∨ s = 105 := by
    rcases h with h | ⟨i, hi, h⟩
    · exact Or.inl h
    · omega
  rcases hs with e | e | e | e | e | e | e | e | e | e | e <;> subst e <;> refine ⟨rfl, rfl, rfl, rfl, fun v hv => ?_⟩ <;> rcases hv4 v hv with e | e | e | e <;> subst e <;> exact ⟨rfl, rfl⟩
theorem stA_lt {s : Nat} (h : stA s) : s ≤ 105 := by
  rcases h with h | ⟨i, hi, h⟩ <;> omega
/-- the state o lies in the cell s -/
def cZs (L : Nat) (g : jG) (I : Nat → Nat → Int32) (J : Nat → Nat → Int64) (s : Nat) (o : Option yV) : Prop := ∃ V : yV, (∀ v, v < 4 → cR L g I J (s + 2 + v) (V v)) ∧ ((o = none ∧ I s 1 = nI 0) ∨ (o = some V ∧ I s 1 = nI 1))
theorem cZs_f {L k sr s PC PQ : Nat} {o : Option yV} {g g1 : jG} {I I1 : Nat → Nat → Int32} {J J1 : Nat → Nat → Int64} (hs : stA s) (h : cZs L g I J s o) (hI : mkI L g I PC PQ) (hf : fZ L k sr g g1 I I1 J J1) (h51 : 51 ≤ s) (hk : s + 5 < 51 + 12 * k) (hsr : sr = 50 ∨ 171 ≤ sr) : cZs L g1 I1 J1 s o := by
  have hC := mkI_C hI
  have hl := stA_lt hs
  obtain ⟨V, h1, h2⟩ := h
  refine ⟨V, fun v hv => fZ_R hf hI (h1 v hv) (by omega) (by unfold zX; omega), ?_⟩
  have e : I1 s = I s := ((hf.1 s (by omega) (mkO_K hI (by rw [(stA_f L g hs).1]; omega) (by rw [(stA_f L g hs).1]; omega) (by rw [(stA_f L g hs).1]; omega) (by rw [(stA_f L g hs).1]; omega))).1 (by unfold zX; omega)).1
  rw [e]
  exact h2
section CC
variable (d L : Nat) (g : jG) {I : Nat → Nat → Int32} {J : Nat → Nat → Int64}
theorem c_at {s v : Nat} (hs : stA s) (hv : v < 4) : jcall (d + 1) 111 [.ref s, .int (nI v)] (jGs L g, I, J) = some (some (.ref (s + 2 + v)), (jGs L g, I, J)) := by
  obtain ⟨h1, h2, h3, h4, h5⟩ := stA_f L g hs
  have k1 : (jGs L g).1 s = 10 := h1
  have r1 : (jGs L g).2.2.1 s 0 = some (s + 1) := h2
  have k2 : (jGs L g).1 (s + 1) = 17 := h3
  have l2 : (jGs L g).2.1 (s + 1) = 4 := h4
  have r2 : (jGs L g).2.2.1 (s + 1) v = some (s + 2 + v) := (h5 v hv).1
  rw [c_State_at, e_State_at_0, if_pos k1, r1, jo_some, jif_f (nI_pos (by omega)), jif_f (show ¬ (4 : Int32) ≤ nI v from nI_ge (b := 4) (by omega) (by omega)), e_State_at_18a, if_pos (by rw [k2]; omega), l2, jin_nI (by omega) (by omega), cond_true, nI_c (by omega), r2, jo_some]
theorem c_stSet {s t : Nat} {o : Option yV} (hs : stA s) (ht : stA t) (hst : s ≠ t) (h : cZs L g I J t o) : ∃ I' J', (∀ a, ¬ (a = s ∨ (s + 2 ≤ a ∧ a ≤ s + 5)) → I' a = I a ∧ J' a = J a) ∧ cZs L g I' J' s o ∧ jcall (d + 2) 110 [.ref s, .ref t] (jGs L g, I, J) = some (none, (jGs L g, I', J')) := by
  obtain ⟨V, h1, h2⟩ := h
  obtain ⟨s1, s2, s3, s4, s5⟩ := stA_f L g hs
  obtain ⟨t1, t2, t3, t4, t5⟩ := stA_f L g ht
  have ks : (jGs L g).1 s = 10 := s1
  have kt : (jGs L g).1 t = 10 := t1
  have rs : (jGs L g).2.2.1 s 0 = some (s + 1) := s2
  have rt : (jGs L g).2.2.1 t 0 = some (t + 1) := t2
  have ks1 : (jGs L g).1 (s + 1) = 17 := s3
  have kt1 : (jGs L g).1 (t + 1) = 17 := t3
  have ls1 : (jGs L g).2.1 (s + 1) = 4 := s4
  have lt1 : (jGs L g).2.1 (t + 1) = 4 := t4
  have hd : ∀ a, t ≤ a → a ≤ t + 5 → ¬ (a = s ∨ (s + 2 ≤ a ∧ a ≤ s + 5)) := by
    intro a y1 y2
    rcases hs with e | ⟨i, hi, e⟩ <;> rcases ht with e' | ⟨j, hj, e'⟩ <;> omega
  have loop : ∀ n v I1 J1, v + n = 4 → (∀ a, ¬ (a = s ∨ (s + 2 ≤ a ∧ a ≤ s + 5)) → I1 a = I a ∧ J1 a = J a) → I1 s 1 = I t 1 → (∀ w, w < v → cR L g I1 J1 (s + 2 + w) (V w)) → ∃ I' J', (∀ a, ¬ (a = s ∨ (s + 2 ≤ a ∧ a ≤ s + 5)) → I' a = I a ∧ J' a = J a) ∧ I' s 1 = I t 1 ∧ (∀ w, w < 4 → cR L g I' J' (s + 2 + w) (V w)) ∧ jval (d + 1) 110 10 [.ref s, .ref t, .int (nI v)] [] (jGs L g, I1, J1) = some (none, (jGs L g, I', J')) := by
    intro n
    induction n with
    | zero =>
      intro v I1 J1 hn y1 y2 y3
      refine ⟨I1, J1, y1, y2, fun w hw => y3 w (by omega), ?_⟩
      rw [e_State_set_10, jif_t (show (4 : Int32) ≤ nI v from nI_le (a := 4) (by omega) (by omega))]
    | succ n ih =>
      intro v I1 J1 hn y1 y2 y3
      have hv : v < 4 := by omega
      have z := y1 (t + 2 + v) (hd _ (by omega) (by omega))
      have ht2 : cR L g I1 J1 (t + 2 + v) (V v) := cR_cg L g (h1 v hv) rfl z.1 z.2
      obtain ⟨I2, J2, b1, b2, b3⟩ := c_set d L g (I := I1) (J := J1) (a := s + 2 + v) (s5 v hv).2 ht2
      obtain ⟨I', J', c1, c2, c3, c4⟩ := ih (v + 1) I2 J2 (by omega) (fun a ha => by
        have e := b1 a (by omega)
        exact ⟨e.1.trans (y1 a ha).1, e.2.trans (y1 a ha).2⟩) (by rw [(b1 s (by omega)).1]; exact y2) (fun w hw => by
        by_cases e : w = v
        · rw [e]; exact b2
        · have z := b1 (s + 2 + w) (by omega)
          exact cR_cg L g (y3 w (by omega)) rfl z.1 z.2)
      refine ⟨I', J', c1, c2, c3, ?_⟩
      have rs1 : (jGs L g).2.2.1 (s + 1) v = some (s + 2 + v) := (s5 v hv).1
      have rt1 : (jGs L g).2.2.1 (t + 1) v = some (t + 2 + v) := (t5 v hv).1
      have k2 : (jGs L g).1 (s + 2 + v) = 2 := (s5 v hv).2
      rw [e_State_set_10, jif_f (show ¬ (4 : Int32) ≤ nI v from nI_ge (b := 4) (by omega) (by omega)), if_pos ks, rs, jo_some, if_pos (by rw [ks1]; omega), ls1, jin_nI (by omega) (by omega), cond_true, nI_c (by omega), rs1, jo_some, if_pos kt, rt, jo_some, if_pos (by rw [kt1]; omega), lt1, jin_nI (by omega) (by omega), cond_true, rt1, jo_some, if_pos k2, b3, jcV_some, e_State_set_30, nI_1]
      exact c4
  obtain ⟨I', J', c1, c2, c3, c4⟩ := loop 4 0 (ju I s 1 (I t 1)) J (by omega) (fun a ha => ⟨ju_n (by omega), rfl⟩) (zu_at _ _ _ _) (fun w hw => by omega)
  have h01 : I t 1 = 0 ∨ I t 1 = 1 := by
    rcases h2 with ⟨_, e⟩ | ⟨_, e⟩
    · exact Or.inl e
    · exact Or.inr e
  refine ⟨I', J', c1, ⟨V, c3, by rw [c2]; exact h2⟩, ?_⟩
  rw [c_State_set, e_State_set_0, if_pos kt, if_pos ks, jif_t h01, show (0 : Int32) = nI 0 from rfl]
  exact c4
end CC

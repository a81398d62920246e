/-! TOP: the law's loop (by wip/whole/genlaw.py) -/
set_option maxRecDepth 100000
set_option maxHeartbeats 4000000
/-- what the law's loop keeps -/
def lI (L : Nat) (xs : Nat → Int32) (PC PQ : Nat) (g : jG) (I : Nat → Nat → Int32) (J : Nat → Nat → Int64) : Prop := ∃ T su sr sa PC' PQ', cI L T su sr sa PC' PQ' g I J ∧ rI T I ∧ zWf T ∧ I 0 = xs ∧ PC' ≤ PC ∧ PQ' ≤ PQ
section LL
variable {L PC PQ : Nat} {xs : Nat → Int32} {g : jG} {I : Nat → Nat → Int32} {J : Nat → Nat → Int64}
theorem l_call {lg : Bool} {mc mr : Nat} {args : List Value} (h : okV lg mc mr args) (hi : lI L xs PC PQ g I J) (h1 : PC + 200 ≤ 600000) (h2 : PQ + 6000 ≤ 7302250) : ∃ v g1 I1 J1 I2 J2, (match lg with
  | false => ∃ x, v = Value.int x
  | true => ∃ x, v = Value.long x) ∧ I1 0 = xs ∧ jcall 40 mc (.ref 1 :: args) (jGs L g, I, J) = some (some v, (jGs L g1, I1, J1)) ∧ jcall 40 mr (.ref 117 :: args) (jGs L g1, I1, J1) = some (some v, (jGs L g1, I2, J2)) ∧ lI L xs (PC + 200) (PQ + 6000) g1 I2 J2 := by
  obtain ⟨T, su, sr, sa, PC', PQ', hc, hr, hw, h0, p1, p2⟩ := hi
  obtain ⟨v, T', hk, hw', ⟨su1, sr1, sa1, PC1, PQ1, g1, I1, J1, c1, c2, c3, c4, c5⟩, hR⟩ := h L T su sr sa PC' PQ' g I J hc hw (by omega) (by omega)
  obtain ⟨I2, J2, r1, r2, r3⟩ := hR g1 I1 J1 (rI_o hr hw c4)
  have z := (jcall_z c5 rfl).2
  have z1 : I1 0 = xs := (show I1 0 = I 0 from z).trans h0
  exact ⟨v, g1, I1, J1, I2, J2, hk, z1, c5, r3, T', su1, sr1, sa1, PC1, PQ1, cI_R c1 r2, r1, hw', (r2 0 (by omega)).1.trans z1, by omega, by omega⟩
theorem cI_rm {T : zT} {su sr : Nat} {sa : Nat → Nat} (h : cI L T su sr sa PC PQ g I J) : g.2.2.2.1 ≤ 600000 ∧ g.2.2.2.2 ≤ 7302250 := by
  have rm := cI_room h
  obtain ⟨_, _, _, _, _, c, _, _, _, _, _, _, _, _, _, _, e1, e2, _, _⟩ := h.2.2.1.1.1
  have a1 : g.2.2.2.1 ≤ PC := e1 ▸ Nat.le_add_right _ _
  have a2 : g.2.2.2.2 ≤ PQ := e2 ▸ Nat.le_add_right _ _
  exact ⟨Nat.le_trans a1 rm.1, Nat.le_trans a2 rm.2⟩
theorem lj {i j : Nat} (hi : i + 4 ≤ L) (hL : L ≤ 2048) (hj : j < 4) : jin (nI i + nI j) L = true := by rw [nI_add]; exact jin_nI (by omega) (by omega)
theorem l_cmp (x : Int64) : lg_cmp x x = 0 := by
  unfold lg_cmp
  simp
theorem lz_type {i : Nat} (hi : i + 4 ≤ L) (hL : L ≤ 2048) (h : lI L xs PC PQ g I J) (h1 : PC + 200 ≤ 600000) (h2 : PQ + 6000 ≤ 7302250) : ∃ g2 I2 J2, lI L xs (PC + 200) (PQ + 6000) g2 I2 J2 ∧ jval 40 277 132 [.ref 0, .ref 1, .ref 117, .int (nI i)] [] (jGs L g, I, J) = jval 40 277 637 [.ref 0, .ref 1, .ref 117, .int (nI i)] [] (jGs L g2, I2, J2) := by
  have h0 : I 0 = xs := by obtain ⟨_, _, _, _, _, _, _, _, _, h0, _⟩ := h; exact h0
  obtain ⟨v, g1, I1, J1, I2, J2, ⟨x, e⟩, z1, c1, c2, hl⟩ := l_call (ok_type (xs (nI i + (1 : Int32)).toNatClampNeg)) h h1 h2
  subst e
  refine ⟨g1, I2, J2, hl, ?_⟩
  rw [e_TextValuesLaw_law_132, show jin (nI i + (1 : Int32)) L = true from lj (j := 1) hi hL (by omega), cond_true, if_pos (show (jGs L g).1 1 = 12 from rfl), h0, c1, jcI_some, e_TextValuesLaw_law_141, show jin (nI i + (1 : Int32)) L = true from lj (j := 1) hi hL (by omega), cond_true, if_pos (show (jGs L g1).1 117 = 13 from rfl), z1, c2, jcI_some, e_TextValuesLaw_law_150, jif_t (rfl)]
theorem lz_clear {i : Nat} (hi : i + 4 ≤ L) (hL : L ≤ 2048) (h : lI L xs PC PQ g I J) (h1 : PC + 200 ≤ 600000) (h2 : PQ + 6000 ≤ 7302250) : ∃ g2 I2 J2, lI L xs (PC + 200) (PQ + 6000) g2 I2 J2 ∧ jval 40 277 155 [.ref 0, .ref 1, .ref 117, .int (nI i)] [] (jGs L g, I, J) = jval 40 277 637 [.ref 0, .ref 1, .ref 117, .int (nI i)] [] (jGs L g2, I2, J2) := by
  have h0 : I 0 = xs := by obtain ⟨_, _, _, _, _, _, _, _, _, h0, _⟩ := h; exact h0
  obtain ⟨v, g1, I1, J1, I2, J2, ⟨x, e⟩, z1, c1, c2, hl⟩ := l_call (ok_clear) h h1 h2
  subst e
  refine ⟨g1, I2, J2, hl, ?_⟩
  rw [e_TextValuesLaw_law_155, if_pos (show (jGs L g).1 1 = 12 from rfl), c1, jcI_some, e_TextValuesLaw_law_159, if_pos (show (jGs L g1).1 117 = 13 from rfl), c2, jcI_some, e_TextValuesLaw_law_163, jif_t (rfl)]
theorem lz_pattern {i : Nat} (hi : i + 4 ≤ L) (hL : L ≤ 2048) (h : lI L xs PC PQ g I J) (h1 : PC + 200 ≤ 600000) (h2 : PQ + 6000 ≤ 7302250) : ∃ g2 I2 J2, lI L xs (PC + 200) (PQ + 6000) g2 I2 J2 ∧ jval 40 277 168 [.ref 0, .ref 1, .ref 117, .int (nI i)] [] (jGs L g, I, J) = jval 40 277 637 [.ref 0, .ref 1, .ref 117, .int (nI i)] [] (jGs L g2, I2, J2) := by
  have h0 : I 0 = xs := by obtain ⟨_, _, _, _, _, _, _, _, _, h0, _⟩ := h; exact h0
  obtain ⟨v, g1, I1, J1, I2, J2, ⟨x, e⟩, z1, c1, c2, hl⟩ := l_call (ok_pattern (xs (nI i + (1 : Int32)).toNatClampNeg)) h h1 h2
  subst e
  refine ⟨g1, I2, J2, hl, ?_⟩
  rw [e_TextValuesLaw_law_168, show jin (nI i + (1 : Int32)) L = true from lj (j := 1) hi hL (by omega), cond_true, if_pos (show (jGs L g).1 1 = 12 from rfl), h0, c1, jcI_some, e_TextValuesLaw_law_177, show jin (nI i + (1 : Int32)) L = true from lj (j := 1) hi hL (by omega), cond_true, if_pos (show (jGs L g1).1 117 = 13 from rfl), z1, c2, jcI_some, e_TextValuesLaw_law_186, jif_t (rfl)]
theorem lz_program {i : Nat} (hi : i + 4 ≤ L) (hL : L ≤ 2048) (h : lI L xs PC PQ g I J) (h1 : PC + 200 ≤ 600000) (h2 : PQ + 6000 ≤ 7302250) : ∃ g2 I2 J2, lI L xs (PC + 200) (PQ + 6000) g2 I2 J2 ∧ jval 40 277 191 [.ref 0, .ref 1, .ref 117, .int (nI i)] [] (jGs L g, I, J) = jval 40 277 637 [.ref 0, .ref 1, .ref 117, .int (nI i)] [] (jGs L g2, I2, J2) := by
  have h0 : I 0 = xs := by obtain ⟨_, _, _, _, _, _, _, _, _, h0, _⟩ := h; exact h0
  obtain ⟨v, g1, I1, J1, I2, J2, ⟨x, e⟩, z1, c1, c2, hl⟩ := l_call (ok_program) h h1 h2
  subst e
  refine ⟨g1, I2, J2, hl, ?_⟩
  rw [e_TextValuesLaw_law_191, if_pos (show (jGs L g).1 1 = 12 from rfl), c1, jcI_some, e_TextValuesLaw_law_195, if_pos (show (jGs L g1).1 117 = 13 from rfl), c2, jcI_some, e_TextValuesLaw_law_199, jif_t (rfl)]
theorem lz_sets {i : Nat} (hi : i + 4 ≤ L) (hL : L ≤ 2048) (h : lI L xs PC PQ g I J) (h1 : PC + 200 ≤ 600000) (h2 : PQ + 6000 ≤ 7302250) : ∃ g2 I2 J2, lI L xs (PC + 200) (PQ + 6000) g2 I2 J2 ∧ jval 40 277 204 [.ref 0, .ref 1, .ref 117, .int (nI i)] [] (jGs L g, I, J) = jval 40 277 637 [.ref 0, .ref 1, .ref 117, .int (nI i)] [] (jGs L g2, I2, J2) := by
  have h0 : I 0 = xs := by obtain ⟨_, _, _, _, _, _, _, _, _, h0, _⟩ := h; exact h0
  obtain ⟨v, g1, I1, J1, I2, J2, ⟨x, e⟩, z1, c1, c2, hl⟩ := l_call (ok_sets (xs (nI i + (1 : Int32)).toNatClampNeg) (xs (nI i + (2 : Int32)).toNatClampNeg)) h h1 h2
  subst e
  refine ⟨g1, I2, J2, hl, ?_⟩
  rw [e_TextValuesLaw_law_204, show jin (nI i + (1 : Int32)) L = true from lj (j := 1) hi hL (by omega), cond_true, show jin (nI i + (2 : Int32)) L = true from lj (j := 2) hi hL (by omega), cond_true, if_pos (show (jGs L g).1 1 = 12 from rfl), h0, c1, jcI_some, e_TextValuesLaw_law_218, show jin (nI i + (1 : Int32)) L = true from lj (j := 1) hi hL (by omega), cond_true, show jin (nI i + (2 : Int32)) L = true from lj (j := 2) hi hL (by omega), cond_true, if_pos (show (jGs L g1).1 117 = 13 from rfl), z1, c2, jcI_some, e_TextValuesLaw_law_232, jif_t (rfl)]
theorem lz_value {i : Nat} (hi : i + 4 ≤ L) (hL : L ≤ 2048) (h : lI L xs PC PQ g I J) (h1 : PC + 200 ≤ 600000) (h2 : PQ + 6000 ≤ 7302250) : ∃ g2 I2 J2, lI L xs (PC + 200) (PQ + 6000) g2 I2 J2 ∧ jval 40 277 237 [.ref 0, .ref 1, .ref 117, .int (nI i)] [] (jGs L g, I, J) = jval 40 277 637 [.ref 0, .ref 1, .ref 117, .int (nI i)] [] (jGs L g2, I2, J2) := by
  have h0 : I 0 = xs := by obtain ⟨_, _, _, _, _, _, _, _, _, h0, _⟩ := h; exact h0
  obtain ⟨v, g1, I1, J1, I2, J2, ⟨x, e⟩, z1, c1, c2, hl⟩ := l_call (ok_value (xs (nI i + (1 : Int32)).toNatClampNeg) (xs (nI i + (2 : Int32)).toNatClampNeg)) h h1 h2
  subst e
  refine ⟨g1, I2, J2, hl, ?_⟩
  rw [e_TextValuesLaw_law_237, show jin (nI i + (1 : Int32)) L = true from lj (j := 1) hi hL (by omega), cond_true, show jin (nI i + (2 : Int32)) L = true from lj (j := 2) hi hL (by omega), cond_true, if_pos (show (jGs L g).1 1 = 12 from rfl), h0, c1, jcI_some, e_TextValuesLaw_law_251, show jin (nI i + (1 : Int32)) L = true from lj (j := 1) hi hL (by omega), cond_true, show jin (nI i + (2 : Int32)) L = true from lj (j := 2) hi hL (by omega), cond_true, if_pos (show (jGs L g1).1 117 = 13 from rfl), z1, c2, jcI_some, e_TextValuesLaw_law_265, jif_t (rfl)]
theorem lz_many {i : Nat} (hi : i + 4 ≤ L) (hL : L ≤ 2048) (h : lI L xs PC PQ g I J) (h1 : PC + 200 ≤ 600000) (h2 : PQ + 6000 ≤ 7302250) : ∃ g2 I2 J2, lI L xs (PC + 200) (PQ + 6000) g2 I2 J2 ∧ jval 40 277 270 [.ref 0, .ref 1, .ref 117, .int (nI i)] [] (jGs L g, I, J) = jval 40 277 637 [.ref 0, .ref 1, .ref 117, .int (nI i)] [] (jGs L g2, I2, J2) := by
  have h0 : I 0 = xs := by obtain ⟨_, _, _, _, _, _, _, _, _, h0, _⟩ := h; exact h0
  obtain ⟨v, g1, I1, J1, I2, J2, ⟨x, e⟩, z1, c1, c2, hl⟩ := l_call (ok_many (xs (nI i + (1 : Int32)).toNatClampNeg) (xs (nI i + (2 : Int32)).toNatClampNeg)) h h1 h2
  subst e
  refine ⟨g1, I2, J2, hl, ?_⟩
  rw [e_TextValuesLaw_law_270, show jin (nI i + (1 : Int32)) L = true from lj (j := 1) hi hL (by omega), cond_true, show jin (nI i + (2 : Int32)) L = true from lj (j := 2) hi hL (by omega), cond_true, if_pos (show (jGs L g).1 1 = 12 from rfl), h0, c1, jcJ_some, e_TextValuesLaw_law_284, show jin (nI i + (1 : Int32)) L = true from lj (j := 1) hi hL (by omega), cond_true, show jin (nI i + (2 : Int32)) L = true from lj (j := 2) hi hL (by omega), cond_true, if_pos (show (jGs L g1).1 117 = 13 from rfl), z1, c2, jcJ_some, e_TextValuesLaw_law_298, jif_t (l_cmp x)]
theorem lz_text {i : Nat} (hi : i + 4 ≤ L) (hL : L ≤ 2048) (h : lI L xs PC PQ g I J) (h1 : PC + 200 ≤ 600000) (h2 : PQ + 6000 ≤ 7302250) : ∃ g2 I2 J2, lI L xs (PC + 200) (PQ + 6000) g2 I2 J2 ∧ jval 40 277 304 [.ref 0, .ref 1, .ref 117, .int (nI i)] [] (jGs L g, I, J) = jval 40 277 637 [.ref 0, .ref 1, .ref 117, .int (nI i)] [] (jGs L g2, I2, J2) := by
  have h0 : I 0 = xs := by obtain ⟨_, _, _, _, _, _, _, _, _, h0, _⟩ := h; exact h0
  obtain ⟨v, g1, I1, J1, I2, J2, ⟨x, e⟩, z1, c1, c2, hl⟩ := l_call (ok_text (xs (nI i + (1 : Int32)).toNatClampNeg) (xs (nI i + (2 : Int32)).toNatClampNeg) (xs (nI i + (3 : Int32)).toNatClampNeg)) h h1 h2
  subst e
  refine ⟨g1, I2, J2, hl, ?_⟩
  rw [e_TextValuesLaw_law_304, show jin (nI i + (1 : Int32)) L = true from lj (j := 1) hi hL (by omega), cond_true, show jin (nI i + (2 : Int32)) L = true from lj (j := 2) hi hL (by omega), cond_true, show jin (nI i + (3 : Int32)) L = true from lj (j := 3) hi hL (by omega), cond_true, if_pos (show (jGs L g).1 1 = 12 from rfl), h0, c1, jcI_some, e_TextValuesLaw_law_323, show jin (nI i + (1 : Int32)) L = true from lj (j := 1) hi hL (by omega), cond_true, show jin (nI i + (2 : Int32)) L = true from lj (j := 2) hi hL (by omega), cond_true, show jin (nI i + (3 : Int32)) L = true from lj (j := 3) hi hL (by omega), cond_true, if_pos (show (jGs L g1).1 117 = 13 from rfl), z1, c2, jcI_some, e_TextValuesLaw_law_342, jif_t (rfl)]
theorem lz_holds {i : Nat} (hi : i + 4 ≤ L) (hL : L ≤ 2048) (h : lI L xs PC PQ g I J) (h1 : PC + 200 ≤ 600000) (h2 : PQ + 6000 ≤ 7302250) : ∃ g2 I2 J2, lI L xs (PC + 200) (PQ + 6000) g2 I2 J2 ∧ jval 40 277 347 [.ref 0, .ref 1, .ref 117, .int (nI i)] [] (jGs L g, I, J) = jval 40 277 637 [.ref 0, .ref 1, .ref 117, .int (nI i)] [] (jGs L g2, I2, J2) := by
  have h0 : I 0 = xs := by obtain ⟨_, _, _, _, _, _, _, _, _, h0, _⟩ := h; exact h0
  obtain ⟨v, g1, I1, J1, I2, J2, ⟨x, e⟩, z1, c1, c2, hl⟩ := l_call (ok_holds (xs (nI i + (1 : Int32)).toNatClampNeg)) h h1 h2
  subst e
  refine ⟨g1, I2, J2, hl, ?_⟩
  rw [e_TextValuesLaw_law_347, show jin (nI i + (1 : Int32)) L = true from lj (j := 1) hi hL (by omega), cond_true, if_pos (show (jGs L g).1 1 = 12 from rfl), h0, c1, jcI_some, e_TextValuesLaw_law_356, show jin (nI i + (1 : Int32)) L = true from lj (j := 1) hi hL (by omega), cond_true, if_pos (show (jGs L g1).1 117 = 13 from rfl), z1, c2, jcI_some, e_TextValuesLaw_law_365, jif_t (rfl)]
theorem lz_within {i : Nat} (hi : i + 4 ≤ L) (hL : L ≤ 2048) (h : lI L xs PC PQ g I J) (h1 : PC + 200 ≤ 600000) (h2 : PQ + 6000 ≤ 7302250) : ∃ g2 I2 J2, lI L xs (PC + 200) (PQ + 6000) g2 I2 J2 ∧ jval 40 277 370 [.ref 0, .ref 1, .ref 117, .int (nI i)] [] (jGs L g, I, J) = jval 40 277 637 [.ref 0, .ref 1, .ref 117, .int (nI i)] [] (jGs L g2, I2, J2) := by
  have h0 : I 0 = xs := by obtain ⟨_, _, _, _, _, _, _, _, _, h0, _⟩ := h; exact h0
  obtain ⟨v, g1, I1, J1, I2, J2, ⟨x, e⟩, z1, c1, c2, hl⟩ := l_call (ok_within (xs (nI i + (1 : Int32)).toNatClampNeg) (xs (nI i + (2 : Int32)).toNatClampNeg)) h h1 h2
  subst e
  refine ⟨g1, I2, J2, hl, ?_⟩
  rw [e_TextValuesLaw_law_370, show jin (nI i + (1 : Int32)) L = true from lj (j := 1) hi hL (by omega), cond_true, show jin (nI i + (2 : Int32)) L = true from lj (j := 2) hi hL (by omega), cond_true, if_pos (show (jGs L g).1 1 = 12 from rfl), h0, c1, jcI_some, e_TextValuesLaw_law_384, show jin (nI i + (1 : Int32)) L = true from lj (j := 1) hi hL (by omega), cond_true, show jin (nI i + (2 : Int32)) L = true from lj (j := 2) hi hL (by omega), cond_true, if_pos (show (jGs L g1).1 117 = 13 from rfl), z1, c2, jcI_some, e_TextValuesLaw_law_398, jif_t (rfl)]
theorem lz_alarms {i : Nat} (hi : i + 4 ≤ L) (hL : L ≤ 2048) (h : lI L xs PC PQ g I J) (h1 : PC + 200 ≤ 600000) (h2 : PQ + 6000 ≤ 7302250) : ∃ g2 I2 J2, lI L xs (PC + 200) (PQ + 6000) g2 I2 J2 ∧ jval 40 277 403 [.ref 0, .ref 1, .ref 117, .int (nI i)] [] (jGs L g, I, J) = jval 40 277 637 [.ref 0, .ref 1, .ref 117, .int (nI i)] [] (jGs L g2, I2, J2) := by
  have h0 : I 0 = xs := by obtain ⟨_, _, _, _, _, _, _, _, _, h0, _⟩ := h; exact h0
  obtain ⟨v, g1, I1, J1, I2, J2, ⟨x, e⟩, z1, c1, c2, hl⟩ := l_call (ok_alarms) h h1 h2
  subst e
  refine ⟨g1, I2, J2, hl, ?_⟩
  rw [e_TextValuesLaw_law_403, if_pos (show (jGs L g).1 1 = 12 from rfl), c1, jcI_some, e_TextValuesLaw_law_407, if_pos (show (jGs L g1).1 117 = 13 from rfl), c2, jcI_some, e_TextValuesLaw_law_411, jif_t (rfl)]
theorem lz_alarm {i : Nat} (hi : i + 4 ≤ L) (hL : L ≤ 2048) (h : lI L xs PC PQ g I J) (h1 : PC + 200 ≤ 600000) (h2 : PQ + 6000 ≤ 7302250) : ∃ g2 I2 J2, lI L xs (PC + 200) (PQ + 6000) g2 I2 J2 ∧ jval 40 277 416 [.ref 0, .ref 1, .ref 117, .int (nI i)] [] (jGs L g, I, J) = jval 40 277 637 [.ref 0, .ref 1, .ref 117, .int (nI i)] [] (jGs L g2, I2, J2) := by
  have h0 : I 0 = xs := by obtain ⟨_, _, _, _, _, _, _, _, _, h0, _⟩ := h; exact h0
  obtain ⟨v, g1, I1, J1, I2, J2, ⟨x, e⟩, z1, c1, c2, hl⟩ := l_call (ok_alarm (xs (nI i + (1 : Int32)).toNatClampNeg) (xs (nI i + (2 : Int32)).toNatClampNeg)) h h1 h2
  subst e
  refine ⟨g1, I2, J2, hl, ?_⟩
  rw [e_TextValuesLaw_law_416, show jin (nI i + (1 : Int32)) L = true from lj (j := 1) hi hL (by omega), cond_true, show jin (nI i + (2 : Int32)) L = true from lj (j := 2) hi hL (by omega), cond_true, if_pos (show (jGs L g).1 1 = 12 from rfl), h0, c1, jcI_some, e_TextValuesLaw_law_430, show jin (nI i + (1 : Int32)) L = true from lj (j := 1) hi hL (by omega), cond_true, show jin (nI i + (2 : Int32)) L = true from lj (j := 2) hi hL (by omega), cond_true, if_pos (show (jGs L g1).1 117 = 13 from rfl), z1, c2, jcI_some, e_TextValuesLaw_law_444, jif_t (rfl)]
theorem lz_raised {i : Nat} (hi : i + 4 ≤ L) (hL : L ≤ 2048) (h : lI L xs PC PQ g I J) (h1 : PC + 200 ≤ 600000) (h2 : PQ + 6000 ≤ 7302250) : ∃ g2 I2 J2, lI L xs (PC + 200) (PQ + 6000) g2 I2 J2 ∧ jval 40 277 449 [.ref 0, .ref 1, .ref 117, .int (nI i)] [] (jGs L g, I, J) = jval 40 277 637 [.ref 0, .ref 1, .ref 117, .int (nI i)] [] (jGs L g2, I2, J2) := by
  have h0 : I 0 = xs := by obtain ⟨_, _, _, _, _, _, _, _, _, h0, _⟩ := h; exact h0
  obtain ⟨v, g1, I1, J1, I2, J2, ⟨x, e⟩, z1, c1, c2, hl⟩ := l_call (ok_raised (xs (nI i + (1 : Int32)).toNatClampNeg) (xs (nI i + (2 : Int32)).toNatClampNeg)) h h1 h2
  subst e
  refine ⟨g1, I2, J2, hl, ?_⟩
  rw [e_TextValuesLaw_law_449, show jin (nI i + (1 : Int32)) L = true from lj (j := 1) hi hL (by omega), cond_true, show jin (nI i + (2 : Int32)) L = true from lj (j := 2) hi hL (by omega), cond_true, if_pos (show (jGs L g).1 1 = 12 from rfl), h0, c1, jcI_some, e_TextValuesLaw_law_463, show jin (nI i + (1 : Int32)) L = true from lj (j := 1) hi hL (by omega), cond_true, show jin (nI i + (2 : Int32)) L = true from lj (j := 2) hi hL (by omega), cond_true, if_pos (show (jGs L g1).1 117 = 13 from rfl), z1, c2, jcI_some, e_TextValuesLaw_law_477, jif_t (rfl)]
theorem lz_count {i : Nat} (hi : i + 4 ≤ L) (hL : L ≤ 2048) (h : lI L xs PC PQ g I J) (h1 : PC + 200 ≤ 600000) (h2 : PQ + 6000 ≤ 7302250) : ∃ g2 I2 J2, lI L xs (PC + 200) (PQ + 6000) g2 I2 J2 ∧ jval 40 277 482 [.ref 0, .ref 1, .ref 117, .int (nI i)] [] (jGs L g, I, J) = jval 40 277 637 [.ref 0, .ref 1, .ref 117, .int (nI i)] [] (jGs L g2, I2, J2) := by
  have h0 : I 0 = xs := by obtain ⟨_, _, _, _, _, _, _, _, _, h0, _⟩ := h; exact h0
  obtain ⟨v, g1, I1, J1, I2, J2, ⟨x, e⟩, z1, c1, c2, hl⟩ := l_call (ok_count (xs (nI i + (1 : Int32)).toNatClampNeg)) h h1 h2
  subst e
  refine ⟨g1, I2, J2, hl, ?_⟩
  rw [e_TextValuesLaw_law_482, show jin (nI i + (1 : Int32)) L = true from lj (j := 1) hi hL (by omega), cond_true, if_pos (show (jGs L g).1 1 = 12 from rfl), h0, c1, jcI_some, e_TextValuesLaw_law_491, show jin (nI i + (1 : Int32)) L = true from lj (j := 1) hi hL (by omega), cond_true, if_pos (show (jGs L g1).1 117 = 13 from rfl), z1, c2, jcI_some, e_TextValuesLaw_law_500, jif_t (rfl)]
theorem lz_runs {i : Nat} (hi : i + 4 ≤ L) (hL : L ≤ 2048) (h : lI L xs PC PQ g I J) (h1 : PC + 200 ≤ 600000) (h2 : PQ + 6000 ≤ 7302250) : ∃ g2 I2 J2, lI L xs (PC + 200) (PQ + 6000) g2 I2 J2 ∧ jval 40 277 505 [.ref 0, .ref 1, .ref 117, .int (nI i)] [] (jGs L g, I, J) = jval 40 277 637 [.ref 0, .ref 1, .ref 117, .int (nI i)] [] (jGs L g2, I2, J2) := by
  have h0 : I 0 = xs := by obtain ⟨_, _, _, _, _, _, _, _, _, h0, _⟩ := h; exact h0
  obtain ⟨v, g1, I1, J1, I2, J2, ⟨x, e⟩, z1, c1, c2, hl⟩ := l_call (ok_runs (xs (nI i + (1 : Int32)).toNatClampNeg)) h h1 h2
  subst e
  refine ⟨g1, I2, J2, hl, ?_⟩
  rw [e_TextValuesLaw_law_505, show jin (nI i + (1 : Int32)) L = true from lj (j := 1) hi hL (by omega), cond_true, if_pos (show (jGs L g).1 1 = 12 from rfl), h0, c1, jcI_some, e_TextValuesLaw_law_514, show jin (nI i + (1 : Int32)) L = true from lj (j := 1) hi hL (by omega), cond_true, if_pos (show (jGs L g1).1 117 = 13 from rfl), z1, c2, jcI_some, e_TextValuesLaw_law_523, jif_t (rfl)]
theorem lz_ran {i : Nat} (hi : i + 4 ≤ L) (hL : L ≤ 2048) (h : lI L xs PC PQ g I J) (h1 : PC + 200 ≤ 600000) (h2 : PQ + 6000 ≤ 7302250) : ∃ g2 I2 J2, lI L xs (PC + 200) (PQ + 6000) g2 I2 J2 ∧ jval 40 277 528 [.ref 0, .ref 1, .ref 117, .int (nI i)] [] (jGs L g, I, J) = jval 40 277 637 [.ref 0, .ref 1, .ref 117, .int (nI i)] [] (jGs L g2, I2, J2) := by
  have h0 : I 0 = xs := by obtain ⟨_, _, _, _, _, _, _, _, _, h0, _⟩ := h; exact h0
  obtain ⟨v, g1, I1, J1, I2, J2, ⟨x, e⟩, z1, c1, c2, hl⟩ := l_call (ok_ran (xs (nI i + (1 : Int32)).toNatClampNeg) (xs (nI i + (2 : Int32)).toNatClampNeg)) h h1 h2
  subst e
  refine ⟨g1, I2, J2, hl, ?_⟩
  rw [e_TextValuesLaw_law_528, show jin (nI i + (1 : Int32)) L = true from lj (j := 1) hi hL (by omega), cond_true, show jin (nI i + (2 : Int32)) L = true from lj (j := 2) hi hL (by omega), cond_true, if_pos (show (jGs L g).1 1 = 12 from rfl), h0, c1, jcI_some, e_TextValuesLaw_law_542, show jin (nI i + (1 : Int32)) L = true from lj (j := 1) hi hL (by omega), cond_true, show jin (nI i + (2 : Int32)) L = true from lj (j := 2) hi hL (by omega), cond_true, if_pos (show (jGs L g1).1 117 = 13 from rfl), z1, c2, jcI_some, e_TextValuesLaw_law_556, jif_t (rfl)]
theorem lz_caught {i : Nat} (hi : i + 4 ≤ L) (hL : L ≤ 2048) (h : lI L xs PC PQ g I J) (h1 : PC + 200 ≤ 600000) (h2 : PQ + 6000 ≤ 7302250) : ∃ g2 I2 J2, lI L xs (PC + 200) (PQ + 6000) g2 I2 J2 ∧ jval 40 277 561 [.ref 0, .ref 1, .ref 117, .int (nI i)] [] (jGs L g, I, J) = jval 40 277 637 [.ref 0, .ref 1, .ref 117, .int (nI i)] [] (jGs L g2, I2, J2) := by
  have h0 : I 0 = xs := by obtain ⟨_, _, _, _, _, _, _, _, _, h0, _⟩ := h; exact h0
  obtain ⟨v, g1, I1, J1, I2, J2, ⟨x, e⟩, z1, c1, c2, hl⟩ := l_call (ok_caught) h h1 h2
  subst e
  refine ⟨g1, I2, J2, hl, ?_⟩
  rw [e_TextValuesLaw_law_561, if_pos (show (jGs L g).1 1 = 12 from rfl), c1, jcI_some, e_TextValuesLaw_law_565, if_pos (show (jGs L g1).1 117 = 13 from rfl), c2, jcI_some, e_TextValuesLaw_law_569, jif_t (rfl)]
theorem lz_rang {i : Nat} (hi : i + 4 ≤ L) (hL : L ≤ 2048) (h : lI L xs PC PQ g I J) (h1 : PC + 200 ≤ 600000) (h2 : PQ + 6000 ≤ 7302250) : ∃ g2 I2 J2, lI L xs (PC + 200) (PQ + 6000) g2 I2 J2 ∧ jval 40 277 574 [.ref 0, .ref 1, .ref 117, .int (nI i)] [] (jGs L g, I, J) = jval 40 277 637 [.ref 0, .ref 1, .ref 117, .int (nI i)] [] (jGs L g2, I2, J2) := by
  have h0 : I 0 = xs := by obtain ⟨_, _, _, _, _, _, _, _, _, h0, _⟩ := h; exact h0
  obtain ⟨v, g1, I1, J1, I2, J2, ⟨x, e⟩, z1, c1, c2, hl⟩ := l_call (ok_rang) h h1 h2
  subst e
  refine ⟨g1, I2, J2, hl, ?_⟩
  rw [e_TextValuesLaw_law_574, if_pos (show (jGs L g).1 1 = 12 from rfl), c1, jcI_some, e_TextValuesLaw_law_578, if_pos (show (jGs L g1).1 117 = 13 from rfl), c2, jcI_some, e_TextValuesLaw_law_582, jif_t (rfl)]
theorem lz_back {i : Nat} (hi : i + 4 ≤ L) (hL : L ≤ 2048) (h : lI L xs PC PQ g I J) (h1 : PC + 200 ≤ 600000) (h2 : PQ + 6000 ≤ 7302250) : ∃ g2 I2 J2, lI L xs (PC + 200) (PQ + 6000) g2 I2 J2 ∧ jval 40 277 587 [.ref 0, .ref 1, .ref 117, .int (nI i)] [] (jGs L g, I, J) = jval 40 277 637 [.ref 0, .ref 1, .ref 117, .int (nI i)] [] (jGs L g2, I2, J2) := by
  have h0 : I 0 = xs := by obtain ⟨_, _, _, _, _, _, _, _, _, h0, _⟩ := h; exact h0
  obtain ⟨v, g1, I1, J1, I2, J2, ⟨x, e⟩, z1, c1, c2, hl⟩ := l_call (ok_back) h h1 h2
  subst e
  refine ⟨g1, I2, J2, hl, ?_⟩
  rw [e_TextValuesLaw_law_587, if_pos (show (jGs L g).1 1 = 12 from rfl), c1, jcI_some, e_TextValuesLaw_law_591, if_pos (show (jGs L g1).1 117 = 13 from rfl), c2, jcI_some, e_TextValuesLaw_law_595, jif_t (rfl)]
theorem lz_told {i : Nat} (hi : i + 4 ≤ L) (hL : L ≤ 2048) (h : lI L xs PC PQ g I J) (h1 : PC + 200 ≤ 600000) (h2 : PQ + 6000 ≤ 7302250) : ∃ g2 I2 J2, lI L xs (PC + 200) (PQ + 6000) g2 I2 J2 ∧ jval 40 277 600 [.ref 0, .ref 1, .ref 117, .int (nI i)] [] (jGs L g, I, J) = jval 40 277 637 [.ref 0, .ref 1, .ref 117, .int (nI i)] [] (jGs L g2, I2, J2) := by
  have h0 : I 0 = xs := by obtain ⟨_, _, _, _, _, _, _, _, _, h0, _⟩ := h; exact h0
  obtain ⟨v, g1, I1, J1, I2, J2, ⟨x, e⟩, z1, c1, c2, hl⟩ := l_call (ok_told (xs (nI i + (1 : Int32)).toNatClampNeg)) h h1 h2
  subst e
  refine ⟨g1, I2, J2, hl, ?_⟩
  rw [e_TextValuesLaw_law_600, show jin (nI i + (1 : Int32)) L = true from lj (j := 1) hi hL (by omega), cond_true, if_pos (show (jGs L g).1 1 = 12 from rfl), h0, c1, jcI_some, e_TextValuesLaw_law_609, show jin (nI i + (1 : Int32)) L = true from lj (j := 1) hi hL (by omega), cond_true, if_pos (show (jGs L g1).1 117 = 13 from rfl), z1, c2, jcI_some, e_TextValuesLaw_law_618, jif_t (rfl)]
theorem lz_digest {i : Nat} (hi : i + 4 ≤ L) (hL : L ≤ 2048) (h : lI L xs PC PQ g I J) (h1 : PC + 200 ≤ 600000) (h2 : PQ + 6000 ≤ 7302250) : ∃ g2 I2 J2, lI L xs (PC + 200) (PQ + 6000) g2 I2 J2 ∧ jval 40 277 623 [.ref 0, .ref 1, .ref 117, .int (nI i)] [] (jGs L g, I, J) = jval 40 277 637 [.ref 0, .ref 1, .ref 117, .int (nI i)] [] (jGs L g2, I2, J2) := by
  have h0 : I 0 = xs := by obtain ⟨_, _, _, _, _, _, _, _, _, h0, _⟩ := h; exact h0
  obtain ⟨v, g1, I1, J1, I2, J2, ⟨x, e⟩, z1, c1, c2, hl⟩ := l_call (ok_digest) h h1 h2
  subst e
  refine ⟨g1, I2, J2, hl, ?_⟩
  rw [e_TextValuesLaw_law_623, if_pos (show (jGs L g).1 1 = 12 from rfl), c1, jcJ_some, e_TextValuesLaw_law_627, if_pos (show (jGs L g1).1 117 = 13 from rfl), c2, jcJ_some, e_TextValuesLaw_law_631, jif_t (l_cmp x)]
theorem l_loop (hL : L ≤ 2048) : ∀ (f i PC PQ : Nat) (g : jG) (I : Nat → Nat → Int32) (J : Nat → Nat → Int64), L < i + 4 * f + 4 → i < 4096 → PC + 200 * f ≤ 600000 → PQ + 6000 * f ≤ 7302250 → lI L xs PC PQ g I J → ∃ S' : jS, jval 40 277 18 [.ref 0, .ref 1, .ref 117, .int (nI i)] [] (jGs L g, I, J) = some (some (.int 1), S') ∧ jC S' ≤ 600000 ∧ jQ S' ≤ 7302250 := by
  have fin : ∀ (i PC PQ : Nat) (g : jG) (I : Nat → Nat → Int32) (J : Nat → Nat → Int64), L < i + 4 → i < 4096 → PC ≤ 600000 → PQ ≤ 7302250 → lI L xs PC PQ g I J → ∃ S' : jS, jval 40 277 18 [.ref 0, .ref 1, .ref 117, .int (nI i)] [] (jGs L g, I, J) = some (some (.int 1), S') ∧ jC S' ≤ 600000 ∧ jQ S' ≤ 7302250 := by
    intro i PC PQ g I J hi hb h1 h2 hl
    obtain ⟨T, su, sr, sa, PC', PQ', hc, hr, hw, h0, p1, p2⟩ := hl
    have rm := cI_rm hc
    refine ⟨(jGs L g, I, J), ?_, rm.1, rm.2⟩
    rw [e_TextValuesLaw_law_18, jif_t (show Int32.ofNat L - (4 : Int32) < nI i from ?_), jif_t (Or.inr rfl)]
    by_cases h4 : 4 ≤ L
    · rw [show Int32.ofNat L - (4 : Int32) = nI (L - 4) from zi_sub (a := L) (b := 4) h4]
      exact Eq.mpr (zi_lt (by omega) (by omega)) (by omega)
    · have hm : Int32.ofNat L - (4 : Int32) < 0 := by
        have : L = 0 ∨ L = 1 ∨ L = 2 ∨ L = 3 := by omega
        rcases this with e | e | e | e <;> subst e <;> decide
      exact Int32.lt_of_lt_of_le hm (nI_pos' (by omega))
  intro f
  induction f with
  | zero => intro i PC PQ g I J hi hb h1 h2 hl; exact fin i PC PQ g I J (by omega) hb (by omega) (by omega) hl
  | succ f ih =>
    intro i PC PQ g I J hi hb h1 h2 hl
    by_cases hi4 : i + 4 ≤ L
    · have nxt : ∀ {PC2 PQ2 : Nat} {g2 : jG} {I2 : Nat → Nat → Int32} {J2 : Nat → Nat → Int64}, PC2 ≤ PC + 200 → PQ2 ≤ PQ + 6000 → lI L xs PC2 PQ2 g2 I2 J2 → ∃ S' : jS, jval 40 277 637 [.ref 0, .ref 1, .ref 117, .int (nI i)] [] (jGs L g2, I2, J2) = some (some (.int 1), S') ∧ jC S' ≤ 600000 ∧ jQ S' ≤ 7302250 := by
        intro PC2 PQ2 g2 I2 J2 q1 q2 hl2
        rw [e_TextValuesLaw_law_637, show nI i + (4 : Int32) = nI (i + 4) from nI_add i 4]
        exact ih (i + 4) PC2 PQ2 g2 I2 J2 (by omega) (by omega) (by omega) (by omega) hl2
      have big : ∀ {pc : Nat}, (∃ g2 I2 J2, lI L xs (PC + 200) (PQ + 6000) g2 I2 J2 ∧ jval 40 277 pc [.ref 0, .ref 1, .ref 117, .int (nI i)] [] (jGs L g, I, J) = jval 40 277 637 [.ref 0, .ref 1, .ref 117, .int (nI i)] [] (jGs L g2, I2, J2)) → ∃ S' : jS, jval 40 277 pc [.ref 0, .ref 1, .ref 117, .int (nI i)] [] (jGs L g, I, J) = some (some (.int 1), S') ∧ jC S' ≤ 600000 ∧ jQ S' ≤ 7302250 := by
        intro pc ⟨g2, I2, J2, a1, a2⟩
        rw [a2]
        exact nxt (Nat.le_refl _) (Nat.le_refl _) a1
      rw [e_TextValuesLaw_law_18, jif_f (show ¬ Int32.ofNat L - (4 : Int32) < nI i from ?_), jin_nI (by omega) (by omega), cond_true]
      · generalize I 0 (nI i).toNatClampNeg &&& (31 : Int32) = y
        by_cases e0 : y = (0 : Int32)
        · rw [jif_t e0]; exact big (lz_type hi4 hL hl (by omega) (by omega))
        rw [jif_f e0]
        by_cases e1 : y = (1 : Int32)
        · rw [jif_t e1]; exact big (lz_clear hi4 hL hl (by omega) (by omega))
        rw [jif_f e1]
        by_cases e2 : y = (2 : Int32)
        · rw [jif_t e2]; exact big (lz_pattern hi4 hL hl (by omega) (by omega))
        rw [jif_f e2]
        by_cases e3 : y = (3 : Int32)
        · rw [jif_t e3]; exact big (lz_program hi4 hL hl (by omega) (by omega))
        rw [jif_f e3]
        by_cases e4 : y = (4 : Int32)
        · rw [jif_t e4]; exact big (lz_sets hi4 hL hl (by omega) (by omega))
        rw [jif_f e4]
        by_cases e5 : y = (5 : Int32)
        · rw [jif_t e5]; exact big (lz_value hi4 hL hl (by omega) (by omega))
        rw [jif_f e5]
        by_cases e6 : y = (6 : Int32)
        · rw [jif_t e6]; exact big (lz_many hi4 hL hl (by omega) (by omega))
        rw [jif_f e6]
        by_cases e7 : y = (7 : Int32)
        · rw [jif_t e7]; exact big (lz_text hi4 hL hl (by omega) (by omega))
        rw [jif_f e7]
        by_cases e8 : y = (8 : Int32)
        · rw [jif_t e8]; exact big (lz_holds hi4 hL hl (by omega) (by omega))
        rw [jif_f e8]
        by_cases e9 : y = (9 : Int32)
        · rw [jif_t e9]; exact big (lz_within hi4 hL hl (by omega) (by omega))
        rw [jif_f e9]
        by_cases e10 : y = (10 : Int32)
        · rw [jif_t e10]; exact big (lz_alarms hi4 hL hl (by omega) (by omega))
        rw [jif_f e10]
        by_cases e11 : y = (11 : Int32)
        · rw [jif_t e11]; exact big (lz_alarm hi4 hL hl (by omega) (by omega))
        rw [jif_f e11]
        by_cases e12 : y = (12 : Int32)
        · rw [jif_t e12]; exact big (lz_raised hi4 hL hl (by omega) (by omega))
        rw [jif_f e12]
        by_cases e13 : y = (13 : Int32)
        · rw [jif_t e13]; exact big (lz_count hi4 hL hl (by omega) (by omega))
        rw [jif_f e13]
        by_cases e14 : y = (14 : Int32)
        · rw [jif_t e14]; exact big (lz_runs hi4 hL hl (by omega) (by omega))
        rw [jif_f e14]
        by_cases e15 : y = (15 : Int32)
        · rw [jif_t e15]; exact big (lz_ran hi4 hL hl (by omega) (by omega))
        rw [jif_f e15]
        by_cases e16 : y = (16 : Int32)
        · rw [jif_t e16]; exact big (lz_caught hi4 hL hl (by omega) (by omega))
        rw [jif_f e16]
        by_cases e17 : y = (17 : Int32)
        · rw [jif_t e17]; exact big (lz_rang hi4 hL hl (by omega) (by omega))
        rw [jif_f e17]
        by_cases e18 : y = (18 : Int32)
        · rw [jif_t e18]; exact big (lz_back hi4 hL hl (by omega) (by omega))
        rw [jif_f e18]
        by_cases e19 : y = (19 : Int32)
        · rw [jif_t e19]; exact big (lz_told hi4 hL hl (by omega) (by omega))
        rw [jif_f e19]
        by_cases e20 : y = (20 : Int32)
        · rw [jif_t e20]; exact big (lz_digest hi4 hL hl (by omega) (by omega))
        rw [jif_f e20]
        exact nxt (Nat.le_add_right _ _) (Nat.le_add_right _ _) hl
      · rw [show Int32.ofNat L - (4 : Int32) = nI (L - 4) from zi_sub (a := L) (b := 4) (by omega)]
        exact nI_nlt (by omega) (by omega)
    · exact fin i PC PQ g I J (by omega) hb (by omega) (by omega) hl
end LL

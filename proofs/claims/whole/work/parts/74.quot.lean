/-! numbered as they are met: the quotient is canonical -/
set_option maxRecDepth 100000
theorem tM_find {T : Nat → Nat} {x : Nat} (hx : 0 < x) : ∀ p, (∀ q, q < p → T q ≤ tM T q + 1) → x ≤ tM T p → ∃ q, q < p ∧ T q = x
  | 0, _, h => by have : x ≤ 0 := h; omega
  | p + 1, hs, h => by
    by_cases h2 : x ≤ tM T p
    · obtain ⟨q, q1, q2⟩ := tM_find hx p (fun q hq => hs q (by omega)) h2
      exact ⟨q, by omega, q2⟩
    · rw [tM_succ] at h
      have := hs p (by omega)
      exact ⟨p, by omega, by omega⟩
theorem tM_below {T : Nat → Nat} {M : Nat} : ∀ p, (∀ q, q < p → T q ≤ M) → tM T p ≤ M
  | 0, _ => Nat.zero_le _
  | p + 1, h => by
    rw [tM_succ]
    have h1 := tM_below p (fun q hq => h q (by omega))
    have h2 := h p (by omega)
    omega
/-- the first states of the classes -/
theorem kPt_mem {N G : Nat} {ν : Nat → Nat} (h : kPt N G ν) : ∃ mem : Nat → Nat, (∀ a, a < G → mem a < N ∧ ν (mem a) = a ∧ ∀ k', k' < mem a → ν k' < a) ∧ (∀ a b, a < b → b < G → mem a < mem b) ∧ ∀ s, s < N → mem (ν s) ≤ s := by
  have hex : ∀ a, ∃ k, a < G → k < N ∧ ν k = a ∧ ∀ k', k' < k → ν k' < a := fun a => by
    by_cases ha : a < G
    · obtain ⟨k, hk⟩ := h.2.2 a ha
      exact ⟨k, fun _ => hk⟩
    · exact ⟨0, fun h => absurd h ha⟩
  obtain ⟨mem, hm⟩ := Classical.axiomOfChoice hex
  refine ⟨mem, hm, fun a b hab hb => ?_, fun s hs => ?_⟩
  · obtain ⟨a1, a2, a3⟩ := hm a (by omega)
    obtain ⟨b1, b2, b3⟩ := hm b hb
    rcases Nat.lt_trichotomy (mem a) (mem b) with h | h | h
    · exact h
    · rw [h] at a2; omega
    · have := a3 _ h; omega
  · obtain ⟨a1, a2, a3⟩ := hm (ν s) (h.2.1 s hs)
    apply Classical.byContradiction
    intro hgt
    have := a3 s (by omega)
    omega
def kStb (N : Nat) (T ν : Nat → Nat) : Prop := ∀ i, i < N → ∀ j, j < N → ν i = ν j → ∀ l, l < 3 → ν (T (3 * i + l)) = ν (T (3 * j + l))
theorem kQuotN {N G : Nat} {en : Nat → Bool} {T ν mem : Nat → Nat} (hT : ∀ q, q < 3 * N → T q < N) (hs1 : ∀ q, q < 3 * N → T q ≤ tM T q + 1) (hg : ∀ i, i < N → i ≤ tM T (3 * i)) (hN : 0 < N) (hB : kWf (bA N en T)) (hp : kPt N G ν) (hf : kFine (bA N en T) ν) (he : ∀ i, i < N → ∀ j, j < N → ν i = ν j → en i = en j) (hst : kStb N T ν) (m1 : ∀ a, a < G → mem a < N ∧ ν (mem a) = a ∧ ∀ k', k' < mem a → ν k' < a) (m2 : ∀ a b, a < b → b < G → mem a < mem b) (m3 : ∀ s, s < N → mem (ν s) ≤ s) :
    kV (bA G (fun r => en (mem r)) (fun q => ν (T (3 * mem (q / 3) + q % 3)))) ∧ ∀ w, kW w → kL (bA G (fun r => en (mem r)) (fun q => ν (T (3 * mem (q / 3) + q % 3)))) 0 w = kL (bA N en T) 0 w := by
  have hG0 : 0 < G := by have := hp.2.1 0 hN; omega
  have hm0 : mem 0 = 0 := by
    obtain ⟨a1, a2, a3⟩ := m1 0 hG0
    apply Classical.byContradiction
    intro h
    have := a3 0 (by omega)
    omega
  -- the row of a class out of any of its states
  have hrow : ∀ s l, s < N → l < 3 → ν (T (3 * mem ((3 * ν s + l) / 3) + (3 * ν s + l) % 3)) = ν (T (3 * s + l)) := fun s l hs hl => by
    rw [show (3 * ν s + l) / 3 = ν s by omega, show (3 * ν s + l) % 3 = l by omega]
    obtain ⟨a1, a2, -⟩ := m1 (ν s) (hp.2.1 s hs)
    exact hst _ a1 _ hs a2 l hl
  have hmono : ∀ a b, a < G → b < G → mem a < mem b → a < b := fun a b ha hb h => by
    apply Classical.byContradiction
    intro hn
    rcases Nat.lt_or_ge b a with h1 | h1
    · have := m2 b a h1 ha; omega
    · have : a = b := by omega
      rw [this] at h
      omega
  have c2 : ∀ i, i < G → i ≤ tM (fun q => ν (T (3 * mem (q / 3) + q % 3))) (3 * i) := by
    intro i hi
    by_cases h0 : i = 0
    · omega
    · have hmi : 0 < mem i := by have := m2 0 i (by omega) hi; omega
      obtain ⟨a1, a2, a3⟩ := m1 i hi
      obtain ⟨q, q1, q2⟩ := tM_find hmi (3 * mem i) (fun q hq => hs1 q (by omega)) (hg _ a1)
      have hs : q / 3 < N := by omega
      have h1 := m3 _ hs
      have h2 := hp.2.1 _ hs
      have h3 := hmono (ν (q / 3)) i h2 hi (by omega)
      have h4 := hrow (q / 3) (q % 3) hs (by omega)
      rw [show 3 * (q / 3) + q % 3 = q by omega, q2, a2] at h4
      have h5 := tM_ge (fun q => ν (T (3 * mem (q / 3) + q % 3))) (p := 3 * i) (q := 3 * ν (q / 3) + q % 3) (by omega)
      have h6 : ν (T (3 * mem ((3 * ν (q / 3) + q % 3) / 3) + (3 * ν (q / 3) + q % 3) % 3)) ≤ tM (fun q => ν (T (3 * mem (q / 3) + q % 3))) (3 * i) := h5
      rw [h4] at h6
      exact h6
  have hlt : ∀ q, q < 3 * G → ν (T (3 * mem (q / 3) + q % 3)) < G := fun q hq => by
    have := (m1 (q / 3) (by omega)).1
    exact hp.2.1 _ (hT _ (by omega))
  have c1 : ∀ q, q < 3 * G → ν (T (3 * mem (q / 3) + q % 3)) ≤ tM (fun q => ν (T (3 * mem (q / 3) + q % 3))) q + 1 := by
    intro q hq
    apply Classical.byContradiction
    intro hgt
    have hc : q / 3 < G := by omega
    obtain ⟨a1, a2, a3⟩ := m1 (q / 3) hc
    have hx := hlt q hq
    have ht := hT (3 * mem (q / 3) + q % 3) (by omega)
    have hts := hs1 (3 * mem (q / 3) + q % 3) (by omega)
    have hmx := m3 _ ht
    generalize hxx : ν (T (3 * mem (q / 3) + q % 3)) = x at *
    obtain ⟨b1, b2, b3⟩ := m1 (x - 1) (by omega)
    have hmy : 0 < mem (x - 1) := by have := m2 0 (x - 1) (by omega) (by omega); omega
    have hyx := m2 (x - 1) x (by omega) hx
    obtain ⟨q', q1, q2⟩ := tM_find hmy (3 * mem (q / 3) + q % 3) (fun q hq => hs1 q (by omega)) (by omega)
    have hs : q' / 3 < N := by omega
    have h1 := m3 _ hs
    have h2 := hp.2.1 _ hs
    have h4 := hrow (q' / 3) (q' % 3) hs (by omega)
    rw [show 3 * (q' / 3) + q' % 3 = q' by omega, q2, b2] at h4
    have hlt2 : 3 * ν (q' / 3) + q' % 3 < q := by
      by_cases hsm : q' / 3 < mem (q / 3)
      · have := hmono (ν (q' / 3)) (q / 3) h2 hc (by omega)
        omega
      · have hse : q' / 3 = mem (q / 3) := by omega
        rw [hse, a2]
        omega
    have h5 := tM_ge (fun q => ν (T (3 * mem (q / 3) + q % 3))) (p := q) (q := 3 * ν (q' / 3) + q' % 3) hlt2
    have h6 : ν (T (3 * mem ((3 * ν (q' / 3) + q' % 3) / 3) + (3 * ν (q' / 3) + q' % 3) % 3)) ≤ tM (fun q => ν (T (3 * mem (q / 3) + q % 3))) q := h5
    rw [h4] at h6
    omega
  have hb : bf (fun c l => ν (T (3 * mem c + l))) (fun r => ν (mem r)) (fun q => ν (T (3 * mem (q / 3) + q % 3))) G (3 * G) := by
    refine ⟨fun i hi j hj hij => ?_, fun q hq => ⟨hlt q hq, by omega, ?_⟩, c1, ?_⟩
    · have e1 := (m1 i hi).2.1
      have e2 := (m1 j hj).2.1
      have hij' : ν (mem i) = ν (mem j) := hij
      omega
    · show ν (mem (ν (T (3 * mem (q / 3) + q % 3)))) = ν (T (3 * mem (ν (mem (q / 3))) + q % 3))
      rw [(m1 _ (hlt q hq)).2.1, (m1 (q / 3) (by omega)).2.1]
    · have h1 := tM_below (T := fun q => ν (T (3 * mem (q / 3) + q % 3))) (M := G - 1) (3 * G) (fun q hq => by have := hlt q hq; show ν (T (3 * mem (q / 3) + q % 3)) ≤ G - 1; omega)
      have h2 := c2 (G - 1) (by omega)
      have h3 := tM_mono (fun q => ν (T (3 * mem (q / 3) + q % 3))) (show 3 * (G - 1) ≤ 3 * G by omega)
      omega
  have hq := kQuot hB hf (fun i hi j hj h w hw => kStable hB (fun i hi j hj h => by rw [bA_e (N := N) hi, bA_e (N := N) hj]; exact he i hi j hj h) (fun i hi j hj h l hl => by rw [bA_T (N := N) hi hl, bA_T (N := N) hj hl]; exact hst i hi j hj h l hl) w i j hi hj hw h) hp.1 hm0 (fun r hr => (m1 r hr).1) (nx := fun c l => ν (T (3 * mem c + l))) (fun r hr l hl => by
    show ν (T (3 * mem (ν (mem r)) + l)) = ν ((bA N en T).2.2 (mem r) l)
    rw [(m1 r hr).2.1, bA_T (N := N) (m1 r hr).1 hl]) hb c2
  have e1 : bA G (fun r => (bA N en T).2.1 (mem r)) (fun q => ν (T (3 * mem (q / 3) + q % 3))) = bA G (fun r => en (mem r)) (fun q => ν (T (3 * mem (q / 3) + q % 3))) := by
    unfold bA
    refine Prod.ext rfl (Prod.ext ?_ rfl)
    funext r
    show (if r < G then (if mem r < N then en (mem r) else false) else false) = (if r < G then en (mem r) else false)
    by_cases hr : r < G
    · rw [if_pos hr, if_pos hr, if_pos (m1 r hr).1]
    · rw [if_neg hr, if_neg hr]
  rw [e1] at hq
  exact hq
/-- one more round: finer, or the same -/
theorem ref_next {N G G2 : Nat} {en : Nat → Bool} {T ν ν2 σ2 : Nat → Nat} (hT : ∀ q, q < 3 * N → T q < N) (hw : kWf (bA N en T)) (hp : kPt N G ν) (hf : kFine (bA N en T) ν) (he : ∀ i, i < N → ∀ j, j < N → ν i = ν j → en i = en j) (hn : nmb (fS ν T) N G2 σ2 ν2) (h10 : G2 ≤ 10) : kPt N G2 ν2 ∧ kFine (bA N en T) ν2 ∧ (∀ i, i < N → ∀ j, j < N → ν2 i = ν2 j → en i = en j) ∧ G ≤ G2 ∧ (G = G2 → kStb N T ν2) := by
  have hν : ∀ i, i < N → ν i < 10 := fun i hi => by have := hp.2.1 i hi; have := hp.1; omega
  have hiff : ∀ i, i < N → ∀ j, j < N → (ν2 i = ν2 j ↔ ν i = ν j ∧ ∀ l, l < 3 → ν (T (3 * i + l)) = ν (T (3 * j + l))) := fun i hi j hj => (nmb_iff hn hi hj).trans (fS_inj hT hν hi hj)
  refine ⟨⟨h10, fun i hi => (hn.2.1 i hi).1, hn.2.2⟩, fun i hi j hj hne => ?_, fun i hi j hj h => he i hi j hj ((hiff i hi j hj).mp h).1, ?_, fun hGG i hi j hj h l hl => ?_⟩
  · exact fS_fine hw hT hν hf i hi j hj (fun e => hne ((nmb_iff hn hi hj).mpr e))
  · apply Classical.byContradiction
    intro hlt
    have hex : ∀ a, ∃ k, a < G → k < N ∧ ν k = a := fun a => by
      by_cases ha : a < G
      · obtain ⟨k, k1, k2, -⟩ := hp.2.2 a ha
        exact ⟨k, fun _ => ⟨k1, k2⟩⟩
      · exact ⟨0, fun h => absurd h ha⟩
    obtain ⟨r, hr⟩ := Classical.axiomOfChoice hex
    obtain ⟨i, j, h1, h2, h3⟩ := kPigeon G2 (fun a => ν2 (r a)) (fun a ha => (hn.2.1 _ (hr a (by omega)).1).1)
    have e1 := hr i (by omega)
    have e2 := hr j (by omega)
    have := ((hiff _ e1.1 _ e2.1).mp h3).1
    omega
  · subst hGG
    have hback := nmb_still hn hp.2.1 (fun a ha => by obtain ⟨k, k1, k2, -⟩ := hp.2.2 a ha; exact ⟨k, k1, k2⟩) (fun i hi j hj h => ((hiff i hi j hj).mp h).1)
    have h1 := ((hiff i hi j hj).mp h).2 l hl
    exact hback _ (hT _ (by omega)) _ (hT _ (by omega)) h1
section CC
variable (d L : Nat)
theorem c_ref_loop {g0 : jG} {I0 : Nat → Nat → Int32} {J0 : Nat → Nat → Int64} {kr rr sr a b c N : Nat} {T : Nat → Nat} {en : Nat → Bool} (hc : c ≤ 14) (hN : N ≤ 2 ^ c) (h7 : I0 19 7 = nI N) (hT : ∀ q, q < 3 * N → T q < N) (hrr : ∀ x, x < 3 * N → I0 rr (4 * (x / 3) + x % 3) = nI (T x)) (hra : rr ≠ a ∧ rr ≠ b) (hB : kWf (bA N en T)) (hBn : kNum (bA N en T)) : ∀ fu r before G (ν : Nat → Nat) (g : jG) (I : Nat → Nat → Int32) (J : Nat → Nat → Int64) (gr fr : Nat), 11 ≤ r + fu → r ≤ before → before ≤ G → kPt N G ν → kFine (bA N en T) ν → (∀ i, i < N → ∀ j, j < N → ν i = ν j → en i = en j) → (before = G → kStb N T ν) → RS L g0 I0 J0 kr rr sr a b c g I J gr fr → (∀ i, i < N → I gr i = nI (ν i)) → I 19 16 = nI G →
    (kBig (kL (bA N en T) 0) ∧ ∃ g' I' J' gr' fr', RS L g0 I0 J0 kr rr sr a b c g' I' J' gr' fr' ∧ jval d 46 4 [.ref 19, .int (nI before), .int (nI r), jjunk, jjunk, jjunk, jjunk, jjunk] [] (jGs L g, I, J) = some (some (.int (nI 0)), (jGs L g', I', J'))) ∨
    ∃ G' ν' g' I' J' gr' fr', kPt N G' ν' ∧ kFine (bA N en T) ν' ∧ (∀ i, i < N → ∀ j, j < N → ν' i = ν' j → en i = en j) ∧ kStb N T ν' ∧ RS L g0 I0 J0 kr rr sr a b c g' I' J' gr' fr' ∧ (∀ i, i < N → I' gr' i = nI (ν' i)) ∧ I' 19 16 = nI G' ∧ jval d 46 4 [.ref 19, .int (nI before), .int (nI r), jjunk, jjunk, jjunk, jjunk, jjunk] [] (jGs L g, I, J) = some (some (.int (nI 1)), (jGs L g', I', J')) := by
  have hp5 : 2 ^ c ≤ 2 ^ 14 := Nat.pow_le_pow_right (by omega) hc
  intro fu
  induction fu with
  | zero =>
    intro r before G ν g I J gr fr h1 h2 h3 h4
    have := h4.1
    omega
  | succ fu ih =>
    intro r before G ν g I J gr fr h1 h2 h3 h4 h5 h6 h8 hR hgr h16
    have h10 := h4.1
    have h7' : I 19 7 = nI N := (hR.2.2.2.2.2.2.2.1 7 (by omega)).trans h7
    by_cases hbG : before = G
    · right
      refine ⟨G, ν, g, I, J, gr, fr, h4, h5, h6, h8 hbG, hR, hgr, h16, ?_⟩
      subst hbG
      rw [e_Maker_refine_4]
      simp (disch := omega) only [li_0, li_1, li_2, li_3, li_4, li_5, li_6, li_7, li_8, li_9, li_10, li_11, li_12, li_13, li_14, li_15, li_16, li_17, li_18, li_19, li_20, li_21, li_22, li_23, li_24, li_25, li_26, li_27, li_28, li_29, li_30, li_31, li_32, li_33, li_34, li_35, li_36, li_37, li_38, li_39, li_40, li_41, li_42, li_43, li_44, li_45, li_46, li_47, li_48, li_49, li_50, li_51, li_52, li_53, li_54, li_55, li_56, li_57, li_58, li_59, li_60, li_61, li_62, li_63, li_64, li_65, li_66, li_67, li_68, li_69, li_70, li_71, li_72, li_73, li_74, li_75, li_76, li_77, li_78, li_79, li_80, li_81, li_82, li_83, li_84, li_85, li_86, li_87, li_88, li_89, li_90, li_91, li_92, li_93, li_94, li_95, li_96, li_97, li_98, li_99, li_100, li_101, li_102, li_103, li_104, li_105, li_106, li_107, li_108, li_109, li_110, li_111, li_112, li_113, li_114, li_115, li_116, li_117, li_118, li_119, li_120, li_121, li_122, li_123, li_124, li_125, li_126, li_127, li_128, li_160, li_219, li_220, li_248, li_249, li_250, li_251, li_255, li_999, li_1000, li_1023, li_1024, li_10240, li_999999, li_1048576, li_1048575, nI_add, nI_mul, zi_div, zi_eq, zi_le, zi_lt, zi_in, zi_c, zi_sub, zi_ofN, zi_m1e, zi_m1e', zi_m1lt, zi_m1le, zi_ltm1, zi_lem1, zi_m1m1, jif_T, jif_F, jif_t, jif_f, zb_1, zb_0, zb_01, zb_ft, zn_01a, zn_01b, zi_tst, zi_pow, cond_true, jcI_some, jcV_some, jcJ_some, Nat.reduceAdd, Nat.reduceMul, Nat.reduceSub, reduceCtorEq, Bool.true_eq_false, Bool.false_eq_true, zb_t, zb_f, Nat.add_zero, Nat.zero_add, Nat.mul_zero, Nat.zero_mul, or_true, true_or, or_false, false_or, and_true, true_and, and_false, false_and, not_true_eq_false, not_false_eq_true, h16]
      rw [e_Maker_refine_223, jb01_1]
      rfl
    · by_cases hNG : N ≤ G
      · right
        have hinj := kSurj N ν (fun x hx => by obtain ⟨k, k1, k2, -⟩ := h4.2.2 x (by omega); exact ⟨k, k1, k2⟩)
        refine ⟨G, ν, g, I, J, gr, fr, h4, h5, h6, fun i hi j hj he l hl => by rw [hinj i hi j hj he], hR, hgr, h16, ?_⟩
        have hne : ¬ G = before := fun e => hbG e.symm
        rw [e_Maker_refine_4]
        simp (disch := omega) only [li_0, li_1, li_2, li_3, li_4, li_5, li_6, li_7, li_8, li_9, li_10, li_11, li_12, li_13, li_14, li_15, li_16, li_17, li_18, li_19, li_20, li_21, li_22, li_23, li_24, li_25, li_26, li_27, li_28, li_29, li_30, li_31, li_32, li_33, li_34, li_35, li_36, li_37, li_38, li_39, li_40, li_41, li_42, li_43, li_44, li_45, li_46, li_47, li_48, li_49, li_50, li_51, li_52, li_53, li_54, li_55, li_56, li_57, li_58, li_59, li_60, li_61, li_62, li_63, li_64, li_65, li_66, li_67, li_68, li_69, li_70, li_71, li_72, li_73, li_74, li_75, li_76, li_77, li_78, li_79, li_80, li_81, li_82, li_83, li_84, li_85, li_86, li_87, li_88, li_89, li_90, li_91, li_92, li_93, li_94, li_95, li_96, li_97, li_98, li_99, li_100, li_101, li_102, li_103, li_104, li_105, li_106, li_107, li_108, li_109, li_110, li_111, li_112, li_113, li_114, li_115, li_116, li_117, li_118, li_119, li_120, li_121, li_122, li_123, li_124, li_125, li_126, li_127, li_128, li_160, li_219, li_220, li_248, li_249, li_250, li_251, li_255, li_999, li_1000, li_1023, li_1024, li_10240, li_999999, li_1048576, li_1048575, nI_add, nI_mul, zi_div, zi_eq, zi_le, zi_lt, zi_in, zi_c, zi_sub, zi_ofN, zi_m1e, zi_m1e', zi_m1lt, zi_m1le, zi_ltm1, zi_lem1, zi_m1m1, jif_T, jif_F, jif_t, jif_f, zb_1, zb_0, zb_01, zb_ft, zn_01a, zn_01b, zi_tst, zi_pow, cond_true, jcI_some, jcV_some, jcJ_some, Nat.reduceAdd, Nat.reduceMul, Nat.reduceSub, reduceCtorEq, Bool.true_eq_false, Bool.false_eq_true, zb_t, zb_f, Nat.add_zero, Nat.zero_add, Nat.mul_zero, Nat.zero_mul, or_true, true_or, or_false, false_or, and_true, true_and, and_false, false_and, not_true_eq_false, not_false_eq_true, h16, h7', hne]
        rw [e_Maker_refine_223, jb01_1]
        rfl
      · have n6 : 19 ≠ gr := ne_K (gK_19 L g) hR.1.2.2.2.2.2.2.2.2.1 (by omega)
        have e4 : jval d 46 4 [.ref 19, .int (nI before), .int (nI r), jjunk, jjunk, jjunk, jjunk, jjunk] [] (jGs L g, I, J) = jval d 46 41 [.ref 19, .int (nI G), .int (nI r), .int (nI 0), jjunk, jjunk, jjunk, jjunk] [] (jGs L g, ju I 19 16 (nI 0), J) := by
          have hne : ¬ G = before := fun e => hbG e.symm
          rw [e_Maker_refine_4]
          simp (disch := omega) only [li_0, li_1, li_2, li_3, li_4, li_5, li_6, li_7, li_8, li_9, li_10, li_11, li_12, li_13, li_14, li_15, li_16, li_17, li_18, li_19, li_20, li_21, li_22, li_23, li_24, li_25, li_26, li_27, li_28, li_29, li_30, li_31, li_32, li_33, li_34, li_35, li_36, li_37, li_38, li_39, li_40, li_41, li_42, li_43, li_44, li_45, li_46, li_47, li_48, li_49, li_50, li_51, li_52, li_53, li_54, li_55, li_56, li_57, li_58, li_59, li_60, li_61, li_62, li_63, li_64, li_65, li_66, li_67, li_68, li_69, li_70, li_71, li_72, li_73, li_74, li_75, li_76, li_77, li_78, li_79, li_80, li_81, li_82, li_83, li_84, li_85, li_86, li_87, li_88, li_89, li_90, li_91, li_92, li_93, li_94, li_95, li_96, li_97, li_98, li_99, li_100, li_101, li_102, li_103, li_104, li_105, li_106, li_107, li_108, li_109, li_110, li_111, li_112, li_113, li_114, li_115, li_116, li_117, li_118, li_119, li_120, li_121, li_122, li_123, li_124, li_125, li_126, li_127, li_128, li_160, li_219, li_220, li_248, li_249, li_250, li_251, li_255, li_999, li_1000, li_1023, li_1024, li_10240, li_999999, li_1048576, li_1048575, nI_add, nI_mul, zi_div, zi_eq, zi_le, zi_lt, zi_in, zi_c, zi_sub, zi_ofN, zi_m1e, zi_m1e', zi_m1lt, zi_m1le, zi_ltm1, zi_lem1, zi_m1m1, jif_T, jif_F, jif_t, jif_f, zb_1, zb_0, zb_01, zb_ft, zn_01a, zn_01b, zi_tst, zi_pow, cond_true, jcI_some, jcV_some, jcJ_some, Nat.reduceAdd, Nat.reduceMul, Nat.reduceSub, reduceCtorEq, Bool.true_eq_false, Bool.false_eq_true, zb_t, zb_f, Nat.add_zero, Nat.zero_add, Nat.mul_zero, Nat.zero_mul, or_true, true_or, or_false, false_or, and_true, true_and, and_false, false_and, not_true_eq_false, not_false_eq_true, h16, h7', hne]
        rw [e4]
        have hν : ∀ i, i < N → ν i < 10 := fun i hi => by have := h4.2.1 i hi; omega
        rcases c_ref_41 d L (g0 := g0) (I0 := I0) (J0 := J0) (g := g) (gr := gr) (fr := fr) (x2 := nI r) (G := G) hc hN h7 hT hrr hra hB hBn hν h5 h10 N 0 0 (fun _ => 0) (fun _ => 0) (ju I 19 16 (nI 0)) J (by omega) (RS_I hR (fun x _ hx => ju_n hx) (fun j hj => zu_k hj) (fun _ _ => rfl)) (fun i hi => by rw [zu_a (by omega)]; exact hgr i hi) (zu_at _ _ _ _) (by omega) (nmb_0 _ _ _) (fun x hx => absurd hx (by omega)) (fun i hi => absurd hi (by omega)) with ⟨w1, I', J', w2, w3⟩ | ⟨G2, σ2, ν2, g2, I2, J2, w1, w2, w3, w4, w5, w6⟩
        · exact Or.inl ⟨w1, g, I', J', gr, fr, w2, w3⟩
        · obtain ⟨s1, s2, s3, s4, s5⟩ := ref_next hT hB h4 h5 h6 w1 w2
          rw [w6, e_Maker_refine_217, nI_1]
          exact ih (r + 1) G G2 ν2 g2 I2 J2 fr gr (by omega) (by omega) s4 s1 s2 s3 s5 w3 w5 w4
end CC

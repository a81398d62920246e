/-! one step: jumps, switches, constants -/
set_option maxRecDepth 100000
set_option maxHeartbeats 8000000
theorem jof_toInt {x : Int32} {a : Int} (h1 : -2147483648 ≤ a) (h2 : a ≤ 2147483647) : x = Int32.ofInt a ↔ x.toInt = a := by
  constructor
  · intro h
    rw [h]
    exact Int32.toInt_ofInt_of_le (by rw [show (-2^31 : Int) = -2147483648 by decide]; exact h1) (by rw [show (2^31 : Int) = 2147483648 by decide]; omega)
  · intro h
    rw [← h, Int32.ofInt_toInt]
theorem jlok_off {α : Type} (x : Int32) (d : Int) (k : Int → α) : ∀ ps : List (Int × Int), ps.all (fun p => decide (-2147483648 ≤ p.1) && decide (p.1 ≤ 2147483647)) = true → jlok x ps (k d) k = k (Op.lookupswitch.offset ps d x.toInt)
  | [], _ => rfl
  | (a, o) :: r, h => by
    simp only [List.all_cons, Bool.and_eq_true, decide_eq_true_eq] at h
    rw [Op.lookupswitch.offset_cons]
    unfold jlok
    by_cases hx : x = Int32.ofInt a
    · rw [jif_t hx, if_pos ((jof_toInt h.1.1 h.1.2).mp hx).symm]
    · rw [jif_f hx, if_neg (fun q => hx ((jof_toInt h.1.1 h.1.2).mpr q.symm))]
      exact jlok_off x d k r h.2
theorem jtab_off {α : Type} {x : Int32} {kd : Option α} {k : Int → Option α} {v : α} : ∀ (offs : List Int) (lo : Int), jtab x lo offs kd k = some v → (∃ (j : Nat) (o : Int), offs[j]? = some o ∧ x = Int32.ofInt (lo + j) ∧ k o = some v) ∨ ((∀ j : Nat, j < offs.length → ¬ x = Int32.ofInt (lo + j)) ∧ kd = some v)
  | [], lo, h => Or.inr ⟨fun j hj => absurd hj (by simp), h⟩
  | o :: r, lo, h => by
    unfold jtab at h
    by_cases hx : x = Int32.ofInt lo
    · rw [jif_t hx] at h
      exact Or.inl ⟨0, o, rfl, by simpa using hx, h⟩
    · rw [jif_f hx] at h
      rcases jtab_off r (lo + 1) h with ⟨j, o', g1, g2, g3⟩ | ⟨g1, g2⟩
      · refine Or.inl ⟨j + 1, o', by simpa using g1, ?_, g3⟩
        rw [g2]; congr 1; push_cast; omega
      · refine Or.inr ⟨fun j hj => ?_, g2⟩
        cases j with
        | zero => simpa using hx
        | succ j =>
          have := g1 j (by simpa using hj)
          rw [show lo + ((j + 1 : Nat) : Int) = lo + 1 + (j : Int) by push_cast; omega]
          exact this
section JT
variable {b lo : Nat} {D : va_G} {cy : Nat → ClassId} {mi : Nat} {p : Program} {l : Launch} {e : Env} {R : Room} {s : State} {m : MethodId} {args : Array Value} {below : List Frame} {meth : Method} {c : Code} {mc ms : Nat} {out : Option Value × jS} {pc : Nat} {lv st : List Value} {S : jS}
theorem j_jump {K : Nat → List Value → List Value → jS → jO} {kc : Nat → List Value → List Value → jO} {kr : Option Value → jS → jO} (hC : jCx lo D cy mi p s m args meth c) (hblo : b < lo) (hlen : lv.length = (jmt mi).2.1) (hK : jNext b lo D cy mi p l e R s m args below meth c mc ms out K) {i : Instr} {len : Nat} (hdg : decode (jby mi) pc = .ok (i, len)) (hln : jlen i len = true)
    (hi : match i with
      | .goto _ => True | .ifCond _ _ => True | .if_icmp _ _ => True | .if_acmp _ _ => True | .ifnull _ => True | .ifnonnull _ => True | .tableswitch _ _ _ _ => True | .lookupswitch _ _ => True | .ldc _ => True | .ldc_w _ => True | .ldc2_w _ => True
      | _ => False)
    (h : jstep (jmt mi).1 (jini mi) (jmt mi).2.2.1 i pc lv st S none (fun pc' lv' st' S' => K pc' (jklp (jkl mi) pc' lv') st' S') kc kr = some out) : jAt b lo D cy mi p l e R s m args below meth c mc ms out pc lv st S := by
  obtain ⟨hx, hb, hr, hml, hown, hts, hlk, hini, hKn, hlo', hmi⟩ := hC
  have hown16 := (jow_ok_spec hmi).1
  cases i with
  | goto o =>
    rw [jq_goto] at h
    obtain rfl := jlen3 hln
    have hz := jmp_inv h; clear h; obtain ⟨t, ht, h⟩ := hz
    exact (hK _ _ _ _ hlen h).pure fun H locs ls cells slots Q hw hl k => lv_goto hx hb hdg ht k
  | ifCond cd o =>
    obtain rfl := jlen3 hln
    cases cd with
    | eq =>
      rw [jq_ifCond_eq] at h
      have hz := jp1_inv h; clear h; obtain ⟨x, r, rfl, h⟩ := hz; have hz := jmp_inv h; clear h; obtain ⟨t, ht, h⟩ := hz
      by_cases hc : x = 0
      · rw [jif_t hc] at h; exact (hK _ _ _ _ hlen h).pure fun H locs ls cells slots Q hw hl k => lv_if_eq hx hb hdg ht (fun _ => k) (fun q => absurd hc q)
      · rw [jif_f hc] at h; exact (hK _ _ _ _ hlen h).pure fun H locs ls cells slots Q hw hl k => lv_if_eq hx hb hdg ht (fun q => absurd q hc) (fun _ => k)
    | ne =>
      rw [jq_ifCond_ne] at h
      have hz := jp1_inv h; clear h; obtain ⟨x, r, rfl, h⟩ := hz; have hz := jmp_inv h; clear h; obtain ⟨t, ht, h⟩ := hz
      by_cases hc : x = 0
      · rw [jif_t hc] at h; exact (hK _ _ _ _ hlen h).pure fun H locs ls cells slots Q hw hl k => lv_if_ne hx hb hdg ht (fun q => absurd hc q) (fun _ => k)
      · rw [jif_f hc] at h; exact (hK _ _ _ _ hlen h).pure fun H locs ls cells slots Q hw hl k => lv_if_ne hx hb hdg ht (fun _ => k) (fun q => absurd q hc)
    | lt =>
      rw [jq_ifCond_lt] at h
      have hz := jp1_inv h; clear h; obtain ⟨x, r, rfl, h⟩ := hz; have hz := jmp_inv h; clear h; obtain ⟨t, ht, h⟩ := hz
      by_cases hc : x < 0
      · rw [jif_t hc] at h; exact (hK _ _ _ _ hlen h).pure fun H locs ls cells slots Q hw hl k => lv_if_lt hx hb hdg ht (fun _ => k) (fun q => absurd hc q)
      · rw [jif_f hc] at h; exact (hK _ _ _ _ hlen h).pure fun H locs ls cells slots Q hw hl k => lv_if_lt hx hb hdg ht (fun q => absurd q hc) (fun _ => k)
    | ge =>
      rw [jq_ifCond_ge] at h
      have hz := jp1_inv h; clear h; obtain ⟨x, r, rfl, h⟩ := hz; have hz := jmp_inv h; clear h; obtain ⟨t, ht, h⟩ := hz
      by_cases hc : 0 ≤ x
      · rw [jif_t hc] at h; exact (hK _ _ _ _ hlen h).pure fun H locs ls cells slots Q hw hl k => lv_if_ge hx hb hdg ht (fun _ => k) (fun q => absurd hc q)
      · rw [jif_f hc] at h; exact (hK _ _ _ _ hlen h).pure fun H locs ls cells slots Q hw hl k => lv_if_ge hx hb hdg ht (fun q => absurd q hc) (fun _ => k)
    | gt =>
      rw [jq_ifCond_gt] at h
      have hz := jp1_inv h; clear h; obtain ⟨x, r, rfl, h⟩ := hz; have hz := jmp_inv h; clear h; obtain ⟨t, ht, h⟩ := hz
      by_cases hc : 0 < x
      · rw [jif_t hc] at h; exact (hK _ _ _ _ hlen h).pure fun H locs ls cells slots Q hw hl k => lv_if_gt hx hb hdg ht (fun _ => k) (fun q => absurd hc q)
      · rw [jif_f hc] at h; exact (hK _ _ _ _ hlen h).pure fun H locs ls cells slots Q hw hl k => lv_if_gt hx hb hdg ht (fun q => absurd q hc) (fun _ => k)
    | le =>
      rw [jq_ifCond_le] at h
      have hz := jp1_inv h; clear h; obtain ⟨x, r, rfl, h⟩ := hz; have hz := jmp_inv h; clear h; obtain ⟨t, ht, h⟩ := hz
      by_cases hc : x ≤ 0
      · rw [jif_t hc] at h; exact (hK _ _ _ _ hlen h).pure fun H locs ls cells slots Q hw hl k => lv_if_le hx hb hdg ht (fun _ => k) (fun q => absurd hc q)
      · rw [jif_f hc] at h; exact (hK _ _ _ _ hlen h).pure fun H locs ls cells slots Q hw hl k => lv_if_le hx hb hdg ht (fun q => absurd q hc) (fun _ => k)
  | if_icmp cd o =>
    obtain rfl := jlen3 hln
    cases cd with
    | eq =>
      rw [jq_if_icmp_eq] at h
      have hz := jp1_inv h; clear h; obtain ⟨y, r, rfl, h⟩ := hz; have hz := jp1_inv h; clear h; obtain ⟨x, r, rfl, h⟩ := hz; have hz := jmp_inv h; clear h; obtain ⟨t, ht, h⟩ := hz
      by_cases hc : x = y
      · rw [jif_t hc] at h; exact (hK _ _ _ _ hlen h).pure fun H locs ls cells slots Q hw hl k => lv_icmp_eq hx hb hdg ht (fun _ => k) (fun q => absurd hc q)
      · rw [jif_f hc] at h; exact (hK _ _ _ _ hlen h).pure fun H locs ls cells slots Q hw hl k => lv_icmp_eq hx hb hdg ht (fun q => absurd q hc) (fun _ => k)
    | ne =>
      rw [jq_if_icmp_ne] at h
      have hz := jp1_inv h; clear h; obtain ⟨y, r, rfl, h⟩ := hz; have hz := jp1_inv h; clear h; obtain ⟨x, r, rfl, h⟩ := hz; have hz := jmp_inv h; clear h; obtain ⟨t, ht, h⟩ := hz
      by_cases hc : x = y
      · rw [jif_t hc] at h; exact (hK _ _ _ _ hlen h).pure fun H locs ls cells slots Q hw hl k => lv_icmp_ne hx hb hdg ht (fun q => absurd hc q) (fun _ => k)
      · rw [jif_f hc] at h; exact (hK _ _ _ _ hlen h).pure fun H locs ls cells slots Q hw hl k => lv_icmp_ne hx hb hdg ht (fun _ => k) (fun q => absurd q hc)
    | lt =>
      rw [jq_if_icmp_lt] at h
      have hz := jp1_inv h; clear h; obtain ⟨y, r, rfl, h⟩ := hz; have hz := jp1_inv h; clear h; obtain ⟨x, r, rfl, h⟩ := hz; have hz := jmp_inv h; clear h; obtain ⟨t, ht, h⟩ := hz
      by_cases hc : x < y
      · rw [jif_t hc] at h; exact (hK _ _ _ _ hlen h).pure fun H locs ls cells slots Q hw hl k => lv_icmp_lt hx hb hdg ht (fun _ => k) (fun q => absurd hc q)
      · rw [jif_f hc] at h; exact (hK _ _ _ _ hlen h).pure fun H locs ls cells slots Q hw hl k => lv_icmp_lt hx hb hdg ht (fun q => absurd q hc) (fun _ => k)
    | ge =>
      rw [jq_if_icmp_ge] at h
      have hz := jp1_inv h; clear h; obtain ⟨y, r, rfl, h⟩ := hz; have hz := jp1_inv h; clear h; obtain ⟨x, r, rfl, h⟩ := hz; have hz := jmp_inv h; clear h; obtain ⟨t, ht, h⟩ := hz
      by_cases hc : y ≤ x
      · rw [jif_t hc] at h; exact (hK _ _ _ _ hlen h).pure fun H locs ls cells slots Q hw hl k => lv_icmp_ge hx hb hdg ht (fun _ => k) (fun q => absurd hc q)
      · rw [jif_f hc] at h; exact (hK _ _ _ _ hlen h).pure fun H locs ls cells slots Q hw hl k => lv_icmp_ge hx hb hdg ht (fun q => absurd q hc) (fun _ => k)
    | gt =>
      rw [jq_if_icmp_gt] at h
      have hz := jp1_inv h; clear h; obtain ⟨y, r, rfl, h⟩ := hz; have hz := jp1_inv h; clear h; obtain ⟨x, r, rfl, h⟩ := hz; have hz := jmp_inv h; clear h; obtain ⟨t, ht, h⟩ := hz
      by_cases hc : y < x
      · rw [jif_t hc] at h; exact (hK _ _ _ _ hlen h).pure fun H locs ls cells slots Q hw hl k => lv_icmp_gt hx hb hdg ht (fun _ => k) (fun q => absurd hc q)
      · rw [jif_f hc] at h; exact (hK _ _ _ _ hlen h).pure fun H locs ls cells slots Q hw hl k => lv_icmp_gt hx hb hdg ht (fun q => absurd q hc) (fun _ => k)
    | le =>
      rw [jq_if_icmp_le] at h
      have hz := jp1_inv h; clear h; obtain ⟨y, r, rfl, h⟩ := hz; have hz := jp1_inv h; clear h; obtain ⟨x, r, rfl, h⟩ := hz; have hz := jmp_inv h; clear h; obtain ⟨t, ht, h⟩ := hz
      by_cases hc : x ≤ y
      · rw [jif_t hc] at h; exact (hK _ _ _ _ hlen h).pure fun H locs ls cells slots Q hw hl k => lv_icmp_le hx hb hdg ht (fun _ => k) (fun q => absurd hc q)
      · rw [jif_f hc] at h; exact (hK _ _ _ _ hlen h).pure fun H locs ls cells slots Q hw hl k => lv_icmp_le hx hb hdg ht (fun q => absurd q hc) (fun _ => k)
  | if_acmp cd o =>
    obtain rfl := jlen3 hln
    cases cd with
    | eq => cases h
    | ne =>
      rw [jq_if_acmp_ne] at h
      have hz := jpo_inv h; clear h; rcases hz with ⟨r, rfl, h⟩ | ⟨y, r, rfl, h⟩
      · have hz := jpo_inv h; clear h; rcases hz with ⟨r, rfl, h⟩ | ⟨x, r, rfl, h⟩
        · have hz := jmp_inv h; clear h; obtain ⟨t, ht, h⟩ := hz
          exact (hK _ _ _ _ hlen h).pure fun H locs ls cells slots Q hw hl k => lv_acmp_ne (rx := none) (ry := none) hx hb hdg ht (fun q => absurd rfl q) (fun _ => k)
        · have hz := jmp_inv h; clear h; obtain ⟨t, ht, h⟩ := hz
          exact (hK _ _ _ _ hlen h).pure fun H locs ls cells slots Q hw hl k => lv_acmp_ne (rx := some (jρ b lo x)) (ry := none) hx hb hdg ht (fun _ => k) (fun q => by cases q)
      · have hz := jpo_inv h; clear h; rcases hz with ⟨r, rfl, h⟩ | ⟨x, r, rfl, h⟩
        · have hz := jmp_inv h; clear h; obtain ⟨t, ht, h⟩ := hz
          exact (hK _ _ _ _ hlen h).pure fun H locs ls cells slots Q hw hl k => lv_acmp_ne (rx := none) (ry := some (jρ b lo y)) hx hb hdg ht (fun _ => k) (fun q => by cases q)
        · have hz := jmp_inv h; clear h; obtain ⟨t, ht, h⟩ := hz
          by_cases hc : x = y
          · rw [if_pos hc] at h
            exact (hK _ _ _ _ hlen h).pure fun H locs ls cells slots Q hw hl k => lv_acmp_ne (rx := some (jρ b lo x)) (ry := some (jρ b lo y)) hx hb hdg ht (fun q => absurd (by rw [hc]) q) (fun _ => k)
          · rw [if_neg hc] at h
            exact (hK _ _ _ _ hlen h).pure fun H locs ls cells slots Q hw hl k => lv_acmp_ne (rx := some (jρ b lo x)) (ry := some (jρ b lo y)) hx hb hdg ht (fun _ => k) (fun q => absurd (jρ_inj hblo (Option.some.inj q)) hc)
  | ifnull o =>
    rw [jq_ifnull] at h
    obtain rfl := jlen3 hln
    have hz := jpo_inv h; clear h; rcases hz with ⟨r, rfl, h⟩ | ⟨x, r, rfl, h⟩
    · have hz := jmp_inv h; clear h; obtain ⟨t, ht, h⟩ := hz
      exact (hK _ _ _ _ hlen h).pure fun H locs ls cells slots Q hw hl k => lv_ifnullN hx hb hdg ht k
    · exact (hK _ _ _ _ hlen h).pure fun H locs ls cells slots Q hw hl k => lv_ifnull hx hb hdg k
  | ifnonnull o =>
    rw [jq_ifnonnull] at h
    obtain rfl := jlen3 hln
    have hz := jpo_inv h; clear h; rcases hz with ⟨r, rfl, h⟩ | ⟨x, r, rfl, h⟩
    · exact (hK _ _ _ _ hlen h).pure fun H locs ls cells slots Q hw hl k => lv_ifnonnullN hx hb hdg k
    · have hz := jmp_inv h; clear h; obtain ⟨t, ht, h⟩ := hz
      exact (hK _ _ _ _ hlen h).pure fun H locs ls cells slots Q hw hl k => lv_ifnonnull hx hb hdg ht k
  | tableswitch df lw hg offs =>
    rw [jq_tableswitch] at h
    have hz := jp1_inv h; clear h; obtain ⟨x, r, rfl, h⟩ := hz
    have hz := cond_inv h; clear h; obtain ⟨hc, h⟩ := hz
    simp only [Bool.and_eq_true, decide_eq_true_eq] at hc
    obtain ⟨⟨c1, c2⟩, c3⟩ := hc
    rcases jtab_off _ _ h with ⟨j, o, g1, g2, g3⟩ | ⟨g1, g2⟩
    · obtain ⟨t, ht, h⟩ := jmp_inv g3
      have hj : j < offs.toList.length := (List.getElem?_eq_some_iff.mp g1).1
      have hxi : x.toInt = lw + j := (jof_toInt (by omega) (by omega)).mp g2
      exact (hK _ _ _ _ hlen h).pure fun H locs ls cells slots Q hw hl k => lv_tableIn hx hb hdg (by omega) (by omega) (by rw [hxi, show (lw + (j : Int) - lw).toNat = j by omega, ← Array.getElem?_toList]; exact g1) ht k
    · obtain ⟨t, ht, h⟩ := jmp_inv g2
      refine (hK _ _ _ _ hlen h).pure fun H locs ls cells slots Q hw hl k => lv_tableOut hx hb hdg ?_ ht k
      by_cases q1 : x.toInt < lw
      · exact Or.inl q1
      · by_cases q2 : hg < x.toInt
        · exact Or.inr q2
        · refine absurd ?_ (g1 (x.toInt - lw).toNat (by omega))
          rw [show lw + (((x.toInt - lw).toNat : Nat) : Int) = x.toInt by omega, Int32.ofInt_toInt]
  | lookupswitch df ps =>
    rw [jq_lookupswitch] at h
    have hz := jp1_inv h; clear h; obtain ⟨x, r, rfl, h⟩ := hz
    have hz := cond_inv h; clear h; obtain ⟨hc, h⟩ := hz
    rw [Bool.and_eq_true] at hc
    rw [jlok_off x df (fun o => jmp pc o none fun t => K t (jklp (jkl mi) t lv) r S) ps.toList hc.2] at h
    have hz := jmp_inv h; clear h; obtain ⟨t, ht, h⟩ := hz
    exact (hK _ _ _ _ hlen h).pure fun H locs ls cells slots Q hw hl k => lv_lookup hx hb hdg hc.1 rfl ht k
  | ldc n =>
    rw [jq_ldc] at h
    obtain rfl := jlen2 hln
    cases hq : jcti (jmt mi).1 n with
    | none => rw [hq] at h; cases h
    | some q =>
      rw [hq] at h
      have hw1 := jki_all _ hown16 _ (jfind_mem hq)
      exact (hK _ _ _ _ hlen h).pure fun H locs ls cells slots Q hw hl k => lv_ldc hx hb hown (hts _ (jgd_at hw1 rfl)) hdg k
  | ldc_w n =>
    rw [jq_ldc_w] at h
    obtain rfl := jlen3 hln
    cases hq : jcti (jmt mi).1 n with
    | none => rw [hq] at h; cases h
    | some q =>
      rw [hq] at h
      have hw1 := jki_all _ hown16 _ (jfind_mem hq)
      exact (hK _ _ _ _ hlen h).pure fun H locs ls cells slots Q hw hl k => lv_ldcw hx hb hown (hts _ (jgd_at hw1 rfl)) hdg k
  | ldc2_w n =>
    rw [jq_ldc2_w] at h
    obtain rfl := jlen3 hln
    cases hq : jctj (jmt mi).1 n with
    | none => rw [hq] at h; cases h
    | some q =>
      rw [hq] at h
      have hw1 := jkj_all _ hown16 _ (jfind_mem hq)
      exact (hK _ _ _ _ hlen h).pure fun H locs ls cells slots Q hw hl k => lv_ldc2 hx hb hown (hts _ (jgd_at hw1 rfl)) hdg k
  | _ => exact hi.elim
end JT

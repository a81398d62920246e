/-! one step: calls; then all steps -/
set_option maxRecDepth 100000
set_option maxHeartbeats 8000000
theorem jret_inv {rt : Nat} {r : jO} {k : List Value → jS → jO} {v : Option Value × jS} (h : jret rt r k = some v) : ∃ w S1, r = some (w, S1) ∧ k w.toList S1 = some v := by
  unfold jret at h
  split at h
  · unfold jcV at h; split at h
    · exact ⟨none, _, rfl, h⟩
    · cases h
  · unfold jcI at h; split at h
    · exact ⟨some (.int _), _, rfl, h⟩
    · cases h
  · unfold jcJ at h; split at h
    · exact ⟨some (.long _), _, rfl, h⟩
    · cases h
  · unfold jcR at h; split at h
    · exact ⟨some .null, _, rfl, h⟩
    · exact ⟨some (.ref _), _, rfl, h⟩
    · cases h
  · unfold jcI at h; split at h
    · exact ⟨some (.int _), _, rfl, h⟩
    · cases h
  · cases h
theorem jmx_eq (x y : Int32) : jmx x y = if x < y then y else x := by
  unfold jmx
  by_cases h : x < y
  · rw [jif_t h, if_pos h]
  · rw [jif_f h, if_neg h]
theorem jmm_eq (x y : Int32) : jmm x y = if y < x then y else x := by
  unfold jmm
  by_cases h : y < x
  · rw [jif_t h, if_pos h]
  · rw [jif_f h, if_neg h]
section JT
variable {b lo : Nat} {D : va_G} {cy : Nat → ClassId} {mi : Nat} {p : Program} {l : Launch} {e : Env} {R : Room} {s : State} {m : MethodId} {args : Array Value} {below : List Frame} {meth : Method} {c : Code} {mc ms : Nat} {out : Option Value × jS} {pc : Nat} {lv st : List Value} {S S' : jS}
variable {H : Heap} {locs : List Loc} {cells slots : Nat} {Q : State → Prop} {ls : Array Slot} {rest : List Value}
theorem jlk_spec {own n k nest pl : Nat} (ho : own < 16) (h : jlnk own n = some (k, nest, pl)) : (k < 282 ∧ k ≠ jlaw ∨ k = 1000 ∨ k = 1001 ∨ k = 1002 ∨ k = 1003) ∧ jtp pl = some (jmw own (n, k, nest, pl)) := jlk_all own ho _ (jfind_mem h)
theorem j_copy {n k nest pl a bb : Nat} {sp dp cnt : Int32} (hC : jCx lo D cy mi p s m args meth c) (hfr : 1 ≤ R.frames) (hlo : 48 ≤ R.locals) (hls : ls.size = (jmt mi).2.1) (hlk : jlnk (jmt mi).1 n = some (1001, nest, pl)) (hw : jWd b lo D cy S s H) (hk : jK S a = k ∧ jK S bb = k) (hk2 : k = 14 ∨ k = 15) (hab : a ≠ bb) (hc : jb (0 ≤ cnt ∧ 0 ≤ sp ∧ 0 ≤ dp ∧ sp.toNatClampNeg + cnt.toNatClampNeg ≤ jLn S a ∧ dp.toNatClampNeg + cnt.toNatClampNeg ≤ jLn S bb) = true) (hcat : jcat rest ≤ 8) (hdg : decode (jby mi) pc = .ok (.invokestatic n, 3))
    (kk : ∀ (H' : Heap) (locs' : List Loc), jWd b lo D cy (jcp S a sp.toNatClampNeg bb dp.toNatClampNeg cnt.toNatClampNeg) s H' → (∀ q, q < lo → H'[q]? = H[q]?) → (∀ x ∈ locs', x ∈ locs ∨ lo ≤ x.base) → W p l e R s m args below meth c H' locs' cells slots Q (F0 m (pc + 3) ls (rest.map (jrv (jρ b lo))))) : W p l e R s m args below meth c H locs cells slots Q (F0 m pc ls (.int cnt :: .int dp :: .ref (jρ b lo bb) :: .int sp :: .ref (jρ b lo a) :: rest.map (jrv (jρ b lo)))) := by
  obtain ⟨hx, hb, hr, hml, hown, hts, hlk', hini, hKn, hlo', hmi⟩ := hC
  have hlw := (jlk_spec (jow_ok_spec hmi).1 hlk).2
  obtain ⟨-, -, ⟨n1, n2, n3⟩, -⟩ := jac_all
  obtain ⟨c1, c2, c3, c4, c5⟩ := jb_t.mp hc
  have nl : ∀ z : Int32, 0 ≤ z → ¬ z < 0 := fun z hz q => absurd hz (Int32.not_le.mpr q)
  have nn : ∀ z : Int32, 0 ≤ z → z.toInt = (z.toNatClampNeg : Int) := by
    intro z hz
    have hz0 : (0 : Int) ≤ z.toInt := by simpa using Int32.le_iff_toInt_le.mp hz
    show z.toInt = ((z.toInt.toNat : Nat) : Int)
    omega
  obtain ⟨ha0, ha⟩ := jrow (a := a) hw (by omega) (by omega)
  obtain ⟨hb0, hbb⟩ := jrow (a := bb) hw (by omega) (by omega)
  rw [jEr_i (by omega), hk.1] at ha
  rw [jEr_i (by omega), hk.2] at hbb
  obtain ⟨ty, t1, -, t14, t15, -⟩ := jarr hKn (k := k) (by omega) (by omega)
  have hprim : refKind ty = false := by
    rcases hk2 with h | h
    · rw [t14 h]; rfl
    · rw [t15 h]; rfl
  have hfit : ∀ i, fits ty (.int (jI S a i)) = true := by
    intro i
    rcases hk2 with h | h
    · rw [t14 h]
      exact jbyte_fits (hw.2.2.2.2.2 a (by rw [hk.1, h]) i)
    · rw [t15 h]; rfl
  intro T hT X
  obtain ⟨-, k0, hk0, cm0, hkk0⟩ := t1 (jLn S a) (fun j => .int (jI S a j))
  obtain ⟨vm', X', step⟩ := X.arraycopy hx hown (hts _ (jgd_at hlw rfl)) (hts _ (jgd_at n1 rfl)) (hts _ (jgd_at n2 rfl)) (hts _ (jgd_at n3 rfl)) (src := jρ b lo a) (dst := jρ b lo bb) (cs := vp_cell (cy k) (jLn S a, .inl (jI S a))) (cd := vp_cell (cy k) (jLn S bb, .inl (jI S bb))) (srcPos := sp) (destPos := dp) (n := cnt) (by rw [hT]; exact ha) (by rw [hT]; exact hbb)
    (fun _ h => by cases h) (fun _ h => by cases h) (fun h => by cases h) (fun h => by cases h) hk0 hk0 hkk0 hkk0 (by simp [hprim]) (nl _ c2) (nl _ c3) (nl _ c1)
    (by rw [nn sp c2, nn cnt c1]; show ¬ _ > ((arrV (cy k) (jLn S a) (fun j => .int (jI S a j))).slots.size : Int); rw [arrV_size]; omega)
    (by rw [nn dp c3, nn cnt c1]; show ¬ _ > ((arrV (cy k) (jLn S bb) (fun j => .int (jI S bb j))).slots.size : Int); rw [arrV_size]; omega)
    (fun vm₁ _ i hi => by
      have e : (vp_cell (cy k) (jLn S a, .inl (jI S a))).slots.getD (sp.toNatClampNeg + i) .null = .int (jI S a (sp.toNatClampNeg + i)) := by
        show (arrV (cy k) (jLn S a) (fun j => .int (jI S a j))).slots.getD _ _ = _
        rw [Array.getD_eq_getD_getElem?, arrV_read _ _ (by omega)]
        rfl
      refine ⟨?_, ?_⟩
      · rw [e]
        exact hfit _
      · rw [e]
        exact trivial)
    (g := F0 m pc ls (.int cnt :: .int dp :: .ref (jρ b lo bb) :: .int sp :: .ref (jρ b lo a) :: rest.map (jrv (jρ b lo)))) rfl (by rw [hml]; exact hls) (rest := rest.map (jrv (jρ b lo))) rfl (by rw [hb]; exact hdg) hfr (by
      show 2 * 0 + ((rest.map (jrv (jρ b lo))).map fun v => v.category).sum + _ ≤ _
      rw [jcatE]
      have : nativeFrameWords "java/lang/System" "arraycopy" 5 + 11 ≤ 40 := by decide
      omega)
  have e1 : copied (vp_cell (cy k) (jLn S a, .inl (jI S a))) (vp_cell (cy k) (jLn S bb, .inl (jI S bb))) sp dp cnt = vp_cell (cy k) (jLn S bb, .inl (va_cpy (jI S a) (jI S bb) sp.toNatClampNeg dp.toNatClampNeg cnt.toNatClampNeg)) := va_copied (fun z => .int z) (cy k) (cy k) (jI S a) (jI S bb) c4
  rw [e1] at X' step
  have hl : jρ b lo bb < H.size := (Array.getElem?_eq_some_iff.mp hbb).1
  have hheap : ((T.setVm vm').setCell (jρ b lo bb) (vp_cell (cy k) (jLn S bb, .inl (va_cpy (jI S a) (jI S bb) sp.toNatClampNeg dp.toNatClampNeg cnt.toNatClampNeg)))).heap = H.setIfInBounds (jρ b lo bb) (vp_cell (cy k) (jLn S bb, .inl (va_cpy (jI S a) (jI S bb) sp.toNatClampNeg dp.toNatClampNeg cnt.toNatClampNeg))) := by rw [← hT]; rfl
  have oq : ∀ q : Nat, q ≠ jρ b lo bb → (H.setIfInBounds (jρ b lo bb) (vp_cell (cy k) (jLn S bb, .inl (va_cpy (jI S a) (jI S bb) sp.toNatClampNeg dp.toNatClampNeg cnt.toNatClampNeg))))[q]? = H[q]? := fun q hq => by simp [Array.getElem?_setIfInBounds, Ne.symm hq]
  have hS' : jI (jcp S a sp.toNatClampNeg bb dp.toNatClampNeg cnt.toNatClampNeg) bb = va_cpy (jI S a) (jI S bb) sp.toNatClampNeg dp.toNatClampNeg cnt.toNatClampNeg := jup_s _ _ _
  have kk2 := j_write (S' := jcp S a sp.toNatClampNeg bb dp.toNatClampNeg cnt.toNatClampNeg) (pc := pc + 3) (rest := rest.map (jrv (jρ b lo))) (cell := vp_cell (cy k) (jLn S bb, .inl (va_cpy (jI S a) (jI S bb) sp.toNatClampNeg dp.toNatClampNeg cnt.toNatClampNeg))) hw hb0 (by omega) rfl rfl rfl (fun c hc => jup_n hc) (fun c hc => rfl) (fun c hc => rfl) (fun h14 j => by
      rw [hS']
      unfold va_cpy
      split
      · exact hw.2.2.2.2.2 a (by rw [hk.1, ← hk.2]; exact h14) _
      · exact hw.2.2.2.2.2 bb h14 _) (by rw [jEr_i (S := jcp S a sp.toNatClampNeg bb dp.toNatClampNeg cnt.toNatClampNeg) (a := bb) (by show jK S bb = 14 ∨ jK S bb = 15; omega), hS', hk.2]; rfl) (L := ((vp_cell (cy k) (jLn S a, .inl (jI S a))).stretch sp.toNatClampNeg cnt.toNatClampNeg).zipIdx.map fun q => (⟨jρ b lo bb, dp.toNatClampNeg + q.2⟩ : Loc)) (fun x hx => by obtain ⟨z, -, hz⟩ := List.mem_map.mp hx; rw [← hz]) kk _ (by simp [Array.getElem?_setIfInBounds, hl]) (by simp) oq
  obtain ⟨t, a1, b1⟩ := kk2 _ hheap X'
  exact ⟨t, step t a1, b1⟩
theorem j_copyJ {n k nest pl a bb : Nat} {sp dp cnt : Int32} (hC : jCx lo D cy mi p s m args meth c) (hfr : 1 ≤ R.frames) (hlo : 48 ≤ R.locals) (hls : ls.size = (jmt mi).2.1) (hlk : jlnk (jmt mi).1 n = some (1001, nest, pl)) (hw : jWd b lo D cy S s H) (hk : jK S a = k ∧ jK S bb = k) (hk2 : k = 16) (hab : a ≠ bb) (hc : jb (0 ≤ cnt ∧ 0 ≤ sp ∧ 0 ≤ dp ∧ sp.toNatClampNeg + cnt.toNatClampNeg ≤ jLn S a ∧ dp.toNatClampNeg + cnt.toNatClampNeg ≤ jLn S bb) = true) (hcat : jcat rest ≤ 8) (hdg : decode (jby mi) pc = .ok (.invokestatic n, 3))
    (kk : ∀ (H' : Heap) (locs' : List Loc), jWd b lo D cy (jcq S a sp.toNatClampNeg bb dp.toNatClampNeg cnt.toNatClampNeg) s H' → (∀ q, q < lo → H'[q]? = H[q]?) → (∀ x ∈ locs', x ∈ locs ∨ lo ≤ x.base) → W p l e R s m args below meth c H' locs' cells slots Q (F0 m (pc + 3) ls (rest.map (jrv (jρ b lo))))) : W p l e R s m args below meth c H locs cells slots Q (F0 m pc ls (.int cnt :: .int dp :: .ref (jρ b lo bb) :: .int sp :: .ref (jρ b lo a) :: rest.map (jrv (jρ b lo)))) := by
  obtain ⟨hx, hb, hr, hml, hown, hts, hlk', hini, hKn, hlo', hmi⟩ := hC
  have hlw := (jlk_spec (jow_ok_spec hmi).1 hlk).2
  obtain ⟨-, -, ⟨n1, n2, n3⟩, -⟩ := jac_all
  obtain ⟨c1, c2, c3, c4, c5⟩ := jb_t.mp hc
  have nl : ∀ z : Int32, 0 ≤ z → ¬ z < 0 := fun z hz q => absurd hz (Int32.not_le.mpr q)
  have nn : ∀ z : Int32, 0 ≤ z → z.toInt = (z.toNatClampNeg : Int) := by
    intro z hz
    have hz0 : (0 : Int) ≤ z.toInt := by simpa using Int32.le_iff_toInt_le.mp hz
    show z.toInt = ((z.toInt.toNat : Nat) : Int)
    omega
  obtain ⟨ha0, ha⟩ := jrow (a := a) hw (by omega) (by omega)
  obtain ⟨hb0, hbb⟩ := jrow (a := bb) hw (by omega) (by omega)
  rw [jEr_l (by omega), hk.1] at ha
  rw [jEr_l (by omega), hk.2] at hbb
  obtain ⟨ty, t1, -, -, -, t16, -⟩ := jarr hKn (k := k) (by omega) (by omega)
  have hprim : refKind ty = false := by rw [t16 hk2]; rfl
  have hfit : ∀ i, fits ty (.long (jJ S a i)) = true := by intro i; rw [t16 hk2]; rfl
  intro T hT X
  obtain ⟨-, k0, hk0, cm0, hkk0⟩ := t1 (jLn S a) (fun j => .long (jJ S a j))
  obtain ⟨vm', X', step⟩ := X.arraycopy hx hown (hts _ (jgd_at hlw rfl)) (hts _ (jgd_at n1 rfl)) (hts _ (jgd_at n2 rfl)) (hts _ (jgd_at n3 rfl)) (src := jρ b lo a) (dst := jρ b lo bb) (cs := vp_cell (cy k) (jLn S a, .inr (.inl (jJ S a)))) (cd := vp_cell (cy k) (jLn S bb, .inr (.inl (jJ S bb)))) (srcPos := sp) (destPos := dp) (n := cnt) (by rw [hT]; exact ha) (by rw [hT]; exact hbb)
    (fun _ h => by cases h) (fun _ h => by cases h) (fun h => by cases h) (fun h => by cases h) hk0 hk0 hkk0 hkk0 (by simp [hprim]) (nl _ c2) (nl _ c3) (nl _ c1)
    (by rw [nn sp c2, nn cnt c1]; show ¬ _ > ((arrV (cy k) (jLn S a) (fun j => .long (jJ S a j))).slots.size : Int); rw [arrV_size]; omega)
    (by rw [nn dp c3, nn cnt c1]; show ¬ _ > ((arrV (cy k) (jLn S bb) (fun j => .long (jJ S bb j))).slots.size : Int); rw [arrV_size]; omega)
    (fun vm₁ _ i hi => by
      have e : (vp_cell (cy k) (jLn S a, .inr (.inl (jJ S a)))).slots.getD (sp.toNatClampNeg + i) .null = .long (jJ S a (sp.toNatClampNeg + i)) := by
        show (arrV (cy k) (jLn S a) (fun j => .long (jJ S a j))).slots.getD _ _ = _
        rw [Array.getD_eq_getD_getElem?, arrV_read _ _ (by omega)]
        rfl
      refine ⟨?_, ?_⟩
      · rw [e]
        exact hfit _
      · rw [e]
        exact trivial)
    (g := F0 m pc ls (.int cnt :: .int dp :: .ref (jρ b lo bb) :: .int sp :: .ref (jρ b lo a) :: rest.map (jrv (jρ b lo)))) rfl (by rw [hml]; exact hls) (rest := rest.map (jrv (jρ b lo))) rfl (by rw [hb]; exact hdg) hfr (by
      show 2 * 0 + ((rest.map (jrv (jρ b lo))).map fun v => v.category).sum + _ ≤ _
      rw [jcatE]
      have : nativeFrameWords "java/lang/System" "arraycopy" 5 + 11 ≤ 40 := by decide
      omega)
  have e1 : copied (vp_cell (cy k) (jLn S a, .inr (.inl (jJ S a)))) (vp_cell (cy k) (jLn S bb, .inr (.inl (jJ S bb)))) sp dp cnt = vp_cell (cy k) (jLn S bb, .inr (.inl (va_cpy (jJ S a) (jJ S bb) sp.toNatClampNeg dp.toNatClampNeg cnt.toNatClampNeg))) := va_copied (fun z => .long z) (cy k) (cy k) (jJ S a) (jJ S bb) c4
  rw [e1] at X' step
  have hl : jρ b lo bb < H.size := (Array.getElem?_eq_some_iff.mp hbb).1
  have hheap : ((T.setVm vm').setCell (jρ b lo bb) (vp_cell (cy k) (jLn S bb, .inr (.inl (va_cpy (jJ S a) (jJ S bb) sp.toNatClampNeg dp.toNatClampNeg cnt.toNatClampNeg))))).heap = H.setIfInBounds (jρ b lo bb) (vp_cell (cy k) (jLn S bb, .inr (.inl (va_cpy (jJ S a) (jJ S bb) sp.toNatClampNeg dp.toNatClampNeg cnt.toNatClampNeg)))) := by rw [← hT]; rfl
  have oq : ∀ q : Nat, q ≠ jρ b lo bb → (H.setIfInBounds (jρ b lo bb) (vp_cell (cy k) (jLn S bb, .inr (.inl (va_cpy (jJ S a) (jJ S bb) sp.toNatClampNeg dp.toNatClampNeg cnt.toNatClampNeg)))))[q]? = H[q]? := fun q hq => by simp [Array.getElem?_setIfInBounds, Ne.symm hq]
  have hS' : jJ (jcq S a sp.toNatClampNeg bb dp.toNatClampNeg cnt.toNatClampNeg) bb = va_cpy (jJ S a) (jJ S bb) sp.toNatClampNeg dp.toNatClampNeg cnt.toNatClampNeg := jup_s _ _ _
  have kk2 := j_write (S' := jcq S a sp.toNatClampNeg bb dp.toNatClampNeg cnt.toNatClampNeg) (pc := pc + 3) (rest := rest.map (jrv (jρ b lo))) (cell := vp_cell (cy k) (jLn S bb, .inr (.inl (va_cpy (jJ S a) (jJ S bb) sp.toNatClampNeg dp.toNatClampNeg cnt.toNatClampNeg)))) hw hb0 (by omega) rfl rfl rfl (fun c hc => rfl) (fun c hc => jup_n hc) (fun c hc => rfl) (fun h14 => by omega) (by rw [jEr_l (S := jcq S a sp.toNatClampNeg bb dp.toNatClampNeg cnt.toNatClampNeg) (a := bb) (by show jK S bb = 16; omega), hS', hk.2]; rfl) (L := ((vp_cell (cy k) (jLn S a, .inr (.inl (jJ S a)))).stretch sp.toNatClampNeg cnt.toNatClampNeg).zipIdx.map fun q => (⟨jρ b lo bb, dp.toNatClampNeg + q.2⟩ : Loc)) (fun x hx => by obtain ⟨z, -, hz⟩ := List.mem_map.mp hx; rw [← hz]) kk _ (by simp [Array.getElem?_setIfInBounds, hl]) (by simp) oq
  obtain ⟨t, a1, b1⟩ := kk2 _ hheap X'
  exact ⟨t, step t a1, b1⟩
end JT

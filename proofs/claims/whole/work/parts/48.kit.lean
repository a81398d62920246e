/-! rules by which simp runs a segment (wip/whole/genkit.py) -/
theorem li_0 : (0 : Int32) = nI 0 := rfl
theorem li_1 : (1 : Int32) = nI 1 := rfl
theorem li_2 : (2 : Int32) = nI 2 := rfl
theorem li_3 : (3 : Int32) = nI 3 := rfl
theorem li_4 : (4 : Int32) = nI 4 := rfl
theorem li_5 : (5 : Int32) = nI 5 := rfl
theorem li_6 : (6 : Int32) = nI 6 := rfl
theorem li_7 : (7 : Int32) = nI 7 := rfl
theorem li_8 : (8 : Int32) = nI 8 := rfl
theorem li_9 : (9 : Int32) = nI 9 := rfl
theorem li_10 : (10 : Int32) = nI 10 := rfl
theorem li_11 : (11 : Int32) = nI 11 := rfl
theorem li_12 : (12 : Int32) = nI 12 := rfl
theorem li_13 : (13 : Int32) = nI 13 := rfl
theorem li_14 : (14 : Int32) = nI 14 := rfl
theorem li_15 : (15 : Int32) = nI 15 := rfl
theorem li_16 : (16 : Int32) = nI 16 := rfl
theorem li_17 : (17 : Int32) = nI 17 := rfl
theorem li_18 : (18 : Int32) = nI 18 := rfl
theorem li_19 : (19 : Int32) = nI 19 := rfl
theorem li_20 : (20 : Int32) = nI 20 := rfl
theorem li_21 : (21 : Int32) = nI 21 := rfl
theorem li_22 : (22 : Int32) = nI 22 := rfl
theorem li_23 : (23 : Int32) = nI 23 := rfl
theorem li_24 : (24 : Int32) = nI 24 := rfl
theorem li_25 : (25 : Int32) = nI 25 := rfl
theorem li_26 : (26 : Int32) = nI 26 := rfl
theorem li_27 : (27 : Int32) = nI 27 := rfl
theorem li_28 : (28 : Int32) = nI 28 := rfl
theorem li_29 : (29 : Int32) = nI 29 := rfl
theorem li_30 : (30 : Int32) = nI 30 := rfl
theorem li_31 : (31 : Int32) = nI 31 := rfl
theorem li_32 : (32 : Int32) = nI 32 := rfl
theorem li_33 : (33 : Int32) = nI 33 := rfl
theorem li_34 : (34 : Int32) = nI 34 := rfl
theorem li_35 : (35 : Int32) = nI 35 := rfl
theorem li_36 : (36 : Int32) = nI 36 := rfl
theorem li_37 : (37 : Int32) = nI 37 := rfl
theorem li_38 : (38 : Int32) = nI 38 := rfl
theorem li_39 : (39 : Int32) = nI 39 := rfl
theorem li_40 : (40 : Int32) = nI 40 := rfl
theorem li_41 : (41 : Int32) = nI 41 := rfl
theorem li_42 : (42 : Int32) = nI 42 := rfl
theorem li_43 : (43 : Int32) = nI 43 := rfl
theorem li_44 : (44 : Int32) = nI 44 := rfl
theorem li_45 : (45 : Int32) = nI 45 := rfl
theorem li_46 : (46 : Int32) = nI 46 := rfl
theorem li_47 : (47 : Int32) = nI 47 := rfl
theorem li_48 : (48 : Int32) = nI 48 := rfl
theorem li_49 : (49 : Int32) = nI 49 := rfl
theorem li_50 : (50 : Int32) = nI 50 := rfl
theorem li_51 : (51 : Int32) = nI 51 := rfl
theorem li_52 : (52 : Int32) = nI 52 := rfl
theorem li_53 : (53 : Int32) = nI 53 := rfl
theorem li_54 : (54 : Int32) = nI 54 := rfl
theorem li_55 : (55 : Int32) = nI 55 := rfl
theorem li_56 : (56 : Int32) = nI 56 := rfl
theorem li_57 : (57 : Int32) = nI 57 := rfl
theorem li_58 : (58 : Int32) = nI 58 := rfl
theorem li_59 : (59 : Int32) = nI 59 := rfl
theorem li_60 : (60 : Int32) = nI 60 := rfl
theorem li_61 : (61 : Int32) = nI 61 := rfl
theorem li_62 : (62 : Int32) = nI 62 := rfl
theorem li_63 : (63 : Int32) = nI 63 := rfl
theorem li_64 : (64 : Int32) = nI 64 := rfl
theorem li_65 : (65 : Int32) = nI 65 := rfl
theorem li_66 : (66 : Int32) = nI 66 := rfl
theorem li_67 : (67 : Int32) = nI 67 := rfl
theorem li_68 : (68 : Int32) = nI 68 := rfl
theorem li_69 : (69 : Int32) = nI 69 := rfl
theorem li_70 : (70 : Int32) = nI 70 := rfl
theorem li_71 : (71 : Int32) = nI 71 := rfl
theorem li_72 : (72 : Int32) = nI 72 := rfl
theorem li_73 : (73 : Int32) = nI 73 := rfl
theorem li_74 : (74 : Int32) = nI 74 := rfl
theorem li_75 : (75 : Int32) = nI 75 := rfl
theorem li_76 : (76 : Int32) = nI 76 := rfl
theorem li_77 : (77 : Int32) = nI 77 := rfl
theorem li_78 : (78 : Int32) = nI 78 := rfl
theorem li_79 : (79 : Int32) = nI 79 := rfl
theorem li_80 : (80 : Int32) = nI 80 := rfl
theorem li_81 : (81 : Int32) = nI 81 := rfl
theorem li_82 : (82 : Int32) = nI 82 := rfl
theorem li_83 : (83 : Int32) = nI 83 := rfl
theorem li_84 : (84 : Int32) = nI 84 := rfl
theorem li_85 : (85 : Int32) = nI 85 := rfl
theorem li_86 : (86 : Int32) = nI 86 := rfl
theorem li_87 : (87 : Int32) = nI 87 := rfl
theorem li_88 : (88 : Int32) = nI 88 := rfl
theorem li_89 : (89 : Int32) = nI 89 := rfl
theorem li_90 : (90 : Int32) = nI 90 := rfl
theorem li_91 : (91 : Int32) = nI 91 := rfl
theorem li_92 : (92 : Int32) = nI 92 := rfl
theorem li_93 : (93 : Int32) = nI 93 := rfl
theorem li_94 : (94 : Int32) = nI 94 := rfl
theorem li_95 : (95 : Int32) = nI 95 := rfl
theorem li_96 : (96 : Int32) = nI 96 := rfl
theorem li_97 : (97 : Int32) = nI 97 := rfl
theorem li_98 : (98 : Int32) = nI 98 := rfl
theorem li_99 : (99 : Int32) = nI 99 := rfl
theorem li_100 : (100 : Int32) = nI 100 := rfl
theorem li_101 : (101 : Int32) = nI 101 := rfl
theorem li_102 : (102 : Int32) = nI 102 := rfl
theorem li_103 : (103 : Int32) = nI 103 := rfl
theorem li_104 : (104 : Int32) = nI 104 := rfl
theorem li_105 : (105 : Int32) = nI 105 := rfl
theorem li_106 : (106 : Int32) = nI 106 := rfl
theorem li_107 : (107 : Int32) = nI 107 := rfl
theorem li_108 : (108 : Int32) = nI 108 := rfl
theorem li_109 : (109 : Int32) = nI 109 := rfl
theorem li_110 : (110 : Int32) = nI 110 := rfl
theorem li_111 : (111 : Int32) = nI 111 := rfl
theorem li_112 : (112 : Int32) = nI 112 := rfl
theorem li_113 : (113 : Int32) = nI 113 := rfl
theorem li_114 : (114 : Int32) = nI 114 := rfl
theorem li_115 : (115 : Int32) = nI 115 := rfl
theorem li_116 : (116 : Int32) = nI 116 := rfl
theorem li_117 : (117 : Int32) = nI 117 := rfl
theorem li_118 : (118 : Int32) = nI 118 := rfl
theorem li_119 : (119 : Int32) = nI 119 := rfl
theorem li_120 : (120 : Int32) = nI 120 := rfl
theorem li_121 : (121 : Int32) = nI 121 := rfl
theorem li_122 : (122 : Int32) = nI 122 := rfl
theorem li_123 : (123 : Int32) = nI 123 := rfl
theorem li_124 : (124 : Int32) = nI 124 := rfl
theorem li_125 : (125 : Int32) = nI 125 := rfl
theorem li_126 : (126 : Int32) = nI 126 := rfl
theorem li_127 : (127 : Int32) = nI 127 := rfl
theorem li_128 : (128 : Int32) = nI 128 := rfl
theorem li_160 : (160 : Int32) = nI 160 := rfl
theorem li_219 : (219 : Int32) = nI 219 := rfl
theorem li_220 : (220 : Int32) = nI 220 := rfl
theorem li_248 : (248 : Int32) = nI 248 := rfl
theorem li_249 : (249 : Int32) = nI 249 := rfl
theorem li_250 : (250 : Int32) = nI 250 := rfl
theorem li_251 : (251 : Int32) = nI 251 := rfl
theorem li_255 : (255 : Int32) = nI 255 := rfl
theorem li_999 : (999 : Int32) = nI 999 := rfl
theorem li_1000 : (1000 : Int32) = nI 1000 := rfl
theorem li_1023 : (1023 : Int32) = nI 1023 := rfl
theorem li_1024 : (1024 : Int32) = nI 1024 := rfl
theorem li_10240 : (10240 : Int32) = nI 10240 := rfl
theorem li_999999 : (999999 : Int32) = nI 999999 := rfl
theorem li_1048576 : (1048576 : Int32) = nI 1048576 := rfl
theorem li_1048575 : (1048575 : Int32) = nI 1048575 := rfl
theorem zi_eq {a b : Nat} (ha : a < 2147483648) (hb : b < 2147483648) : (nI a = nI b) = (a = b) := propext (nI_eq ha hb)
theorem zi_le {a b : Nat} (ha : a < 2147483648) (hb : b < 2147483648) : (nI a ≤ nI b) = (a ≤ b) := propext (nI_leI ha hb)
theorem zi_lt {a b : Nat} (ha : a < 2147483648) (hb : b < 2147483648) : (nI a < nI b) = (a < b) := propext (nI_ltI ha hb)
theorem zi_in {n N : Nat} (h : n < N) (hN : N ≤ 2147483648) : jin (nI n) N = true := jin_nI h hN
theorem zi_c {n : Nat} (h : n < 2147483648) : (nI n).toNatClampNeg = n := nI_clamp h
theorem zi_sub {a b : Nat} (h : b ≤ a) : nI a - nI b = nI (a - b) := pk_sub h
theorem zi_div {a b : Nat} (ha : a < 2147483648) (hb0 : 0 < b) (hb : b < 2147483648) : nI a / nI b = nI (a / b) := pk_div ha hb0 hb
theorem zi_ofN (n : Nat) : Int32.ofNat n = nI n := rfl
theorem zi_m1e {a : Nat} (ha : a < 2147483648) : (nI a = -nI 1) = False := by
  apply propext
  constructor
  · intro h
    have h1 := nI_toInt ha
    rw [h] at h1
    have h2 : (-nI 1).toInt = -1 := by decide
    omega
  · intro h; cases h
theorem zi_m1e' {a : Nat} (ha : a < 2147483648) : (-nI 1 = nI a) = False := by
  rw [← zi_m1e ha]
  exact propext ⟨fun h => h.symm, fun h => h.symm⟩
theorem zi_m1lt {a : Nat} (ha : a < 2147483648) : (-nI 1 < nI a) = True := by
  apply propext
  constructor
  · intro _; trivial
  · intro _
    rw [Int32.lt_iff_toInt_lt, nI_toInt ha]
    have h2 : (-nI 1).toInt = -1 := by decide
    omega
theorem zi_m1le {a : Nat} (ha : a < 2147483648) : (-nI 1 ≤ nI a) = True := by
  apply propext
  constructor
  · intro _; trivial
  · intro _
    rw [Int32.le_iff_toInt_le, nI_toInt ha]
    have h2 : (-nI 1).toInt = -1 := by decide
    omega
theorem zi_ltm1 {a : Nat} (ha : a < 2147483648) : (nI a < -nI 1) = False := by
  apply propext
  constructor
  · intro h
    rw [Int32.lt_iff_toInt_lt, nI_toInt ha] at h
    have h2 : (-nI 1).toInt = -1 := by decide
    omega
  · intro h; cases h
theorem zi_lem1 {a : Nat} (ha : a < 2147483648) : (nI a ≤ -nI 1) = False := by
  apply propext
  constructor
  · intro h
    rw [Int32.le_iff_toInt_le, nI_toInt ha] at h
    have h2 : (-nI 1).toInt = -1 := by decide
    omega
  · intro h; cases h
theorem zi_m1m1 : (-nI 1 = -nI 1) = True := eq_self _
theorem zi_m10 : (-nI 1 < nI 0) = True := zi_m1lt (by omega)
theorem jif_T {α : Type} (a b : α) : jif True a b = a := jif_t trivial
theorem jif_F {α : Type} (a b : α) : jif False a b = b := jif_f id
theorem zb_1 (c : Bool) : (bI c = nI 1) = (c = true) := propext (bI_eq1 c)
theorem zb_0 (c : Bool) : (bI c = nI 0) = (c = false) := propext (bI_eq0 c)
theorem zb_01 {α : Type} (c : Bool) (a b : α) : jif (bI c = nI 0 ∨ bI c = nI 1) a b = a := bI_01 c a b
theorem zb_ft {α : Type} (c : Bool) (a b : α) : jif (c = false ∨ c = true) a b = a := jif_t (by cases c; exact Or.inl rfl; exact Or.inr rfl)
theorem zn_01a {α : Type} (a b : α) : jif (nI 0 = nI 0 ∨ nI 0 = nI 1) a b = a := jif_t (Or.inl rfl)
theorem zn_01b {α : Type} (a b : α) : jif (nI 1 = nI 0 ∨ nI 1 = nI 1) a b = a := jif_t (Or.inr rfl)
theorem zb_t : bI true = nI 1 := rfl
theorem zb_f : bI false = nI 0 := rfl
theorem zi_tst {m r : Nat} (hr : r < 32) : (nI m >>> (nI r &&& nI 31)) &&& nI 1 = bI (m.testBit r) := nI_tst hr
theorem zi_pow {j : Nat} (h : j < 31) : nI 1 <<< (nI j &&& nI 31) = nI (2 ^ j) := nI_pow j h
theorem zu_at {α : Type} (f : Nat → Nat → α) (a k : Nat) (x : α) : ju f a k x a k = x := ju_at f a k x
theorem zu_a {α : Type} {f : Nat → Nat → α} {a k b j : Nat} {x : α} (h : b ≠ a) : ju f a k x b j = f b j := ju_ne (Or.inl h)
theorem zu_k {α : Type} {f : Nat → Nat → α} {a k j : Nat} {x : α} (h : j ≠ k) : ju f a k x a j = f a j := ju_ne (Or.inr h)
theorem zu_e {α : Type} {f : Nat → Nat → α} {a k j : Nat} {x : α} (h : j = k) : ju f a k x a j = x := by rw [h]; exact ju_at f a k x
/-- rows that stay: but for the rows l, and the places q of the reference's object -/
def fr (l q : List Nat) (I I' : Nat → Nat → Int32) : Prop := (∀ a, a ∉ l → a ≠ 117 → I' a = I a) ∧ ∀ j, j ∉ q → I' 117 j = I 117 j
theorem fr_rfl (l q : List Nat) (I : Nat → Nat → Int32) : fr l q I I := ⟨fun _ _ _ => rfl, fun _ _ => rfl⟩
theorem fr_trans {l q : List Nat} {I I' I'' : Nat → Nat → Int32} (h : fr l q I I') (h' : fr l q I' I'') : fr l q I I'' := ⟨fun a ha hb => (h'.1 a ha hb).trans (h.1 a ha hb), fun j hj => (h'.2 j hj).trans (h.2 j hj)⟩
theorem fr_mono {l q l' q' : List Nat} {I I' : Nat → Nat → Int32} (h : fr l q I I') (hl : ∀ a ∈ l, a ∈ l') (hq : ∀ a ∈ q, a ∈ q') : fr l' q' I I' := ⟨fun a ha hb => h.1 a (fun hx => ha (hl a hx)) hb, fun j hj => h.2 j (fun hx => hj (hq j hx))⟩
theorem fr_ju {l q : List Nat} {I0 I : Nat → Nat → Int32} {a k : Nat} {x : Int32} (h : fr l q I0 I) (ha : a ∈ l) (ht : a ≠ 117) : fr l q I0 (ju I a k x) := ⟨fun b hb hb' => by rw [ju_n (fun e => hb (by rw [e]; exact ha))]; exact h.1 b hb hb', fun j hj => by rw [ju_ne (Or.inl (fun e => ht e.symm))]; exact h.2 j hj⟩
theorem fr_jt {l q : List Nat} {I0 I : Nat → Nat → Int32} {k : Nat} {x : Int32} (h : fr l q I0 I) (hk : k ∈ q) : fr l q I0 (ju I 117 k x) := ⟨fun b hb hb' => by rw [ju_n hb']; exact h.1 b hb hb', fun j hj => by rw [ju_ne (Or.inr (fun e => hj (by rw [e]; exact hk)))]; exact h.2 j hj⟩
theorem fr_jup {l q : List Nat} {I0 I : Nat → Nat → Int32} {a : Nat} {x : Nat → Int32} (h : fr l q I0 I) (ha : a ∈ l) (ht : a ≠ 117) : fr l q I0 (jup I a x) := ⟨fun b hb hb' => by rw [jup_n (fun e => hb (by rw [e]; exact ha))]; exact h.1 b hb hb', fun j hj => by rw [jup_n (fun e => ht e.symm)]; exact h.2 j hj⟩
theorem fr_at {l q : List Nat} {I I' : Nat → Nat → Int32} (h : fr l q I I') {a : Nat} (ha : (l.contains a || a == 117) = false) : I' a = I a := h.1 a (fun hx => by rw [Bool.or_eq_false_iff, List.contains_eq_mem] at ha; exact absurd hx (of_decide_eq_false ha.1)) (fun e => by rw [Bool.or_eq_false_iff] at ha; rw [e] at ha; exact absurd ha.2 (by decide))
theorem fr_th {l q : List Nat} {I I' : Nat → Nat → Int32} (h : fr l q I I') {j : Nat} (hj : q.contains j = false) : I' 117 j = I 117 j := h.2 j (fun hx => by rw [List.contains_eq_mem] at hj; exact absurd hx (of_decide_eq_false hj))

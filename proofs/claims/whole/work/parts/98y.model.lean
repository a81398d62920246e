/-! TOP: the constructors, walked (by wip/whole/geninit2.py) -/
set_option maxRecDepth 100000
set_option maxHeartbeats 8000000
section WW
variable {L : Nat} {xs : Nat → Int32}
theorem k_Model {rl : List (Nat × Nat × Option Nat)} {wl : List (Nat × Nat × Int32)} {jl : List (Nat × Nat × Int64)} (hb : hhB 119 rl wl jl) : At L xs (jcall 40 250 [.ref 119] (hhS L xs 119 4973 rl wl jl)) 39 250 436 [.ref 119, .int (0 : Int32)] [] 170 109773 ((119, 89, some 170) :: (119, 86, some 169) :: (119, 84, some 168) :: (119, 83, some 167) :: (119, 82, some 166) :: (119, 81, some 165) :: (119, 80, some 164) :: (119, 79, some 163) :: (119, 75, some 162) :: (119, 74, some 161) :: (119, 73, some 160) :: (119, 72, some 159) :: (119, 71, some 158) :: (119, 67, some 157) :: (119, 66, some 156) :: (119, 65, some 155) :: (119, 62, some 154) :: (119, 61, some 153) :: (119, 57, some 152) :: (119, 56, some 151) :: (119, 51, some 150) :: (119, 49, some 149) :: (119, 47, some 148) :: (119, 46, some 147) :: (119, 45, some 146) :: (119, 43, some 145) :: (119, 40, some 144) :: (119, 39, some 143) :: (119, 38, some 142) :: (119, 37, some 141) :: (119, 36, some 140) :: (119, 34, some 139) :: (119, 33, some 138) :: (119, 31, some 137) :: (119, 30, some 136) :: (119, 29, some 135) :: (119, 28, some 134) :: (119, 26, some 133) :: (119, 23, some 132) :: (119, 22, some 131) :: (119, 21, some 130) :: (119, 20, some 129) :: (119, 19, some 128) :: (119, 18, some 127) :: (119, 17, some 126) :: (119, 12, some 125) :: (119, 11, some 124) :: (119, 10, some 123) :: (119, 7, some 122) :: (119, 1, some 121) :: (119, 0, some 120) :: rl) ((119, 59, 1) :: (119, 58, 1) :: wl) jl := by
  have h : At L xs (jcall 40 250 [.ref 119] (hhS L xs 119 4973 rl wl jl)) 39 250 0 [.ref 119, jjunk] [] 119 4973 rl wl jl := ⟨rfl, hb⟩
  replace h := st_ar (n' := 120) (q' := 4976) (k := 3) (fun g I J => eg_TextValuesModel_init_0 39 g I J 119) rfl (by decide) (by decide) rfl rfl rfl (by omega) (by omega) h
  replace h := st_pf (fun g I J => eg_TextValuesModel_init_8 39 g I J 119 119 120) (by omega) rfl h
  replace h := st_ar (n' := 121) (q' := 6768) (k := 1792) (fun g I J => eg_TextValuesModel_init_11 39 g I J 119) rfl (by decide) (by decide) rfl rfl rfl (by omega) (by omega) h
  replace h := st_pf (fun g I J => eg_TextValuesModel_init_17 39 g I J 119 119 121) (by omega) rfl h
  replace h := st_ar (n' := 122) (q' := 6888) (k := 120) (fun g I J => eg_TextValuesModel_init_20 39 g I J 119) rfl (by decide) (by decide) rfl rfl rfl (by omega) (by omega) h
  replace h := st_pf (fun g I J => eg_TextValuesModel_init_25 39 g I J 119 119 122) (by omega) rfl h
  replace h := st_ar (n' := 123) (q' := 6898) (k := 10) (fun g I J => eg_TextValuesModel_init_28 39 g I J 119) rfl (by decide) (by decide) rfl rfl rfl (by omega) (by omega) h
  replace h := st_pf (fun g I J => eg_TextValuesModel_init_33 39 g I J 119 119 123) (by omega) rfl h
  replace h := st_ar (n' := 124) (q' := 6908) (k := 10) (fun g I J => eg_TextValuesModel_init_36 39 g I J 119) rfl (by decide) (by decide) rfl rfl rfl (by omega) (by omega) h
  replace h := st_pf (fun g I J => eg_TextValuesModel_init_41 39 g I J 119 119 124) (by omega) rfl h
  replace h := st_ar (n' := 125) (q' := 6911) (k := 3) (fun g I J => eg_TextValuesModel_init_44 39 g I J 119) rfl (by decide) (by decide) rfl rfl rfl (by omega) (by omega) h
  replace h := st_pf (fun g I J => eg_TextValuesModel_init_48 39 g I J 119 119 125) (by omega) rfl h
  replace h := st_ar (n' := 126) (q' := 17151) (k := 10240) (fun g I J => eg_TextValuesModel_init_51 39 g I J 119) rfl (by decide) (by decide) rfl rfl rfl (by omega) (by omega) h
  replace h := st_pf (fun g I J => eg_TextValuesModel_init_57 39 g I J 119 119 126) (by omega) rfl h
  replace h := st_ar (n' := 127) (q' := 27391) (k := 10240) (fun g I J => eg_TextValuesModel_init_60 39 g I J 119) rfl (by decide) (by decide) rfl rfl rfl (by omega) (by omega) h
  replace h := st_pf (fun g I J => eg_TextValuesModel_init_66 39 g I J 119 119 127) (by omega) rfl h
  replace h := st_ar (n' := 128) (q' := 58111) (k := 30720) (fun g I J => eg_TextValuesModel_init_69 39 g I J 119) rfl (by decide) (by decide) rfl rfl rfl (by omega) (by omega) h
  replace h := st_pf (fun g I J => eg_TextValuesModel_init_75 39 g I J 119 119 128) (by omega) rfl h
  replace h := st_ar (n' := 129) (q' := 68351) (k := 10240) (fun g I J => eg_TextValuesModel_init_78 39 g I J 119) rfl (by decide) (by decide) rfl rfl rfl (by omega) (by omega) h
  replace h := st_pf (fun g I J => eg_TextValuesModel_init_84 39 g I J 119 119 129) (by omega) rfl h
  replace h := st_ar (n' := 130) (q' := 78591) (k := 10240) (fun g I J => eg_TextValuesModel_init_87 39 g I J 119) rfl (by decide) (by decide) rfl rfl rfl (by omega) (by omega) h
  replace h := st_pf (fun g I J => eg_TextValuesModel_init_93 39 g I J 119 119 130) (by omega) rfl h
  replace h := st_ar (n' := 131) (q' := 88831) (k := 10240) (fun g I J => eg_TextValuesModel_init_96 39 g I J 119) rfl (by decide) (by decide) rfl rfl rfl (by omega) (by omega) h
  replace h := st_pf (fun g I J => eg_TextValuesModel_init_102 39 g I J 119 119 131) (by omega) rfl h
  replace h := st_ar (n' := 132) (q' := 99071) (k := 10240) (fun g I J => eg_TextValuesModel_init_105 39 g I J 119) rfl (by decide) (by decide) rfl rfl rfl (by omega) (by omega) h
  replace h := st_pf (fun g I J => eg_TextValuesModel_init_111 39 g I J 119 119 132) (by omega) rfl h
  replace h := st_ar (n' := 133) (q' := 99082) (k := 11) (fun g I J => eg_TextValuesModel_init_114 39 g I J 119) rfl (by decide) (by decide) rfl rfl rfl (by omega) (by omega) h
  replace h := st_pf (fun g I J => eg_TextValuesModel_init_119 39 g I J 119 119 133) (by omega) rfl h
  replace h := st_ar (n' := 134) (q' := 99092) (k := 10) (fun g I J => eg_TextValuesModel_init_122 39 g I J 119) rfl (by decide) (by decide) rfl rfl rfl (by omega) (by omega) h
  replace h := st_pf (fun g I J => eg_TextValuesModel_init_127 39 g I J 119 119 134) (by omega) rfl h
  replace h := st_ar (n' := 135) (q' := 99102) (k := 10) (fun g I J => eg_TextValuesModel_init_130 39 g I J 119) rfl (by decide) (by decide) rfl rfl rfl (by omega) (by omega) h
  replace h := st_pf (fun g I J => eg_TextValuesModel_init_135 39 g I J 119 119 135) (by omega) rfl h
  replace h := st_ar (n' := 136) (q' := 101312) (k := 2210) (fun g I J => eg_TextValuesModel_init_138 39 g I J 119) rfl (by decide) (by decide) rfl rfl rfl (by omega) (by omega) h
  replace h := st_pf (fun g I J => eg_TextValuesModel_init_144 39 g I J 119 119 136) (by omega) rfl h
  replace h := st_ar (n' := 137) (q' := 101532) (k := 220) (fun g I J => eg_TextValuesModel_init_147 39 g I J 119) rfl (by decide) (by decide) rfl rfl rfl (by omega) (by omega) h
  replace h := st_pf (fun g I J => eg_TextValuesModel_init_153 39 g I J 119 119 137) (by omega) rfl h
  replace h := st_ar (n' := 138) (q' := 101542) (k := 10) (fun g I J => eg_TextValuesModel_init_156 39 g I J 119) rfl (by decide) (by decide) rfl rfl rfl (by omega) (by omega) h
  replace h := st_pf (fun g I J => eg_TextValuesModel_init_161 39 g I J 119 119 138) (by omega) rfl h
  replace h := st_ar (n' := 139) (q' := 101552) (k := 10) (fun g I J => eg_TextValuesModel_init_164 39 g I J 119) rfl (by decide) (by decide) rfl rfl rfl (by omega) (by omega) h
  replace h := st_pf (fun g I J => eg_TextValuesModel_init_169 39 g I J 119 119 139) (by omega) rfl h
  replace h := st_ar (n' := 140) (q' := 101682) (k := 130) (fun g I J => eg_TextValuesModel_init_172 39 g I J 119) rfl (by decide) (by decide) rfl rfl rfl (by omega) (by omega) h
  replace h := st_pf (fun g I J => eg_TextValuesModel_init_178 39 g I J 119 119 140) (by omega) rfl h
  replace h := st_ar (n' := 141) (q' := 101812) (k := 130) (fun g I J => eg_TextValuesModel_init_181 39 g I J 119) rfl (by decide) (by decide) rfl rfl rfl (by omega) (by omega) h
  replace h := st_pf (fun g I J => eg_TextValuesModel_init_187 39 g I J 119 119 141) (by omega) rfl h
  replace h := st_ar (n' := 142) (q' := 101942) (k := 130) (fun g I J => eg_TextValuesModel_init_190 39 g I J 119) rfl (by decide) (by decide) rfl rfl rfl (by omega) (by omega) h
  replace h := st_pf (fun g I J => eg_TextValuesModel_init_196 39 g I J 119 119 142) (by omega) rfl h
  replace h := st_ar (n' := 143) (q' := 102072) (k := 130) (fun g I J => eg_TextValuesModel_init_199 39 g I J 119) rfl (by decide) (by decide) rfl rfl rfl (by omega) (by omega) h
  replace h := st_pf (fun g I J => eg_TextValuesModel_init_205 39 g I J 119 119 143) (by omega) rfl h
  replace h := st_ar (n' := 144) (q' := 102202) (k := 130) (fun g I J => eg_TextValuesModel_init_208 39 g I J 119) rfl (by decide) (by decide) rfl rfl rfl (by omega) (by omega) h
  replace h := st_pf (fun g I J => eg_TextValuesModel_init_214 39 g I J 119 119 144) (by omega) rfl h
  replace h := st_ar (n' := 145) (q' := 102242) (k := 40) (fun g I J => eg_TextValuesModel_init_217 39 g I J 119) rfl (by decide) (by decide) rfl rfl rfl (by omega) (by omega) h
  replace h := st_pf (fun g I J => eg_TextValuesModel_init_222 39 g I J 119 119 145) (by omega) rfl h
  replace h := st_ar (n' := 146) (q' := 102362) (k := 120) (fun g I J => eg_TextValuesModel_init_225 39 g I J 119) rfl (by decide) (by decide) rfl rfl rfl (by omega) (by omega) h
  replace h := st_pf (fun g I J => eg_TextValuesModel_init_230 39 g I J 119 119 146) (by omega) rfl h
  replace h := st_ar (n' := 147) (q' := 102482) (k := 120) (fun g I J => eg_TextValuesModel_init_233 39 g I J 119) rfl (by decide) (by decide) rfl rfl rfl (by omega) (by omega) h
  replace h := st_pf (fun g I J => eg_TextValuesModel_init_238 39 g I J 119 119 147) (by omega) rfl h
  replace h := st_ar (n' := 148) (q' := 102602) (k := 120) (fun g I J => eg_TextValuesModel_init_241 39 g I J 119) rfl (by decide) (by decide) rfl rfl rfl (by omega) (by omega) h
  replace h := st_pf (fun g I J => eg_TextValuesModel_init_246 39 g I J 119 119 148) (by omega) rfl h
  replace h := st_ar (n' := 149) (q' := 102722) (k := 120) (fun g I J => eg_TextValuesModel_init_249 39 g I J 119) rfl (by decide) (by decide) rfl rfl rfl (by omega) (by omega) h
  replace h := st_pf (fun g I J => eg_TextValuesModel_init_254 39 g I J 119 119 149) (by omega) rfl h
  replace h := st_ar (n' := 150) (q' := 102842) (k := 120) (fun g I J => eg_TextValuesModel_init_257 39 g I J 119) rfl (by decide) (by decide) rfl rfl rfl (by omega) (by omega) h
  replace h := st_pf (fun g I J => eg_TextValuesModel_init_262 39 g I J 119 119 150) (by omega) rfl h
  replace h := st_ar (n' := 151) (q' := 102847) (k := 5) (fun g I J => eg_TextValuesModel_init_265 39 g I J 119) rfl (by decide) (by decide) rfl rfl rfl (by omega) (by omega) h
  replace h := st_pf (fun g I J => eg_TextValuesModel_init_269 39 g I J 119 119 151) (by omega) rfl h
  replace h := st_ar (n' := 152) (q' := 102852) (k := 5) (fun g I J => eg_TextValuesModel_init_272 39 g I J 119) rfl (by decide) (by decide) rfl rfl rfl (by omega) (by omega) h
  replace h := st_pf (fun g I J => eg_TextValuesModel_init_276 39 g I J 119 119 152) (by omega) rfl h
  replace h := st_M279 (n' := 153) (q' := 102908) (by omega) rfl rfl rfl rfl rfl (by omega) (by omega) h
  replace h := st_pf (fun g I J => eg_TextValuesModel_init_294 39 g I J 119 119 153) (by omega) rfl h
  replace h := st_ar (n' := 154) (q' := 102913) (k := 5) (fun g I J => eg_TextValuesModel_init_297 39 g I J 119) rfl (by decide) (by decide) rfl rfl rfl (by omega) (by omega) h
  replace h := st_pf (fun g I J => eg_TextValuesModel_init_301 39 g I J 119 119 154) (by omega) rfl h
  replace h := st_ar (n' := 155) (q' := 102953) (k := 40) (fun g I J => eg_TextValuesModel_init_304 39 g I J 119) rfl (by decide) (by decide) rfl rfl rfl (by omega) (by omega) h
  replace h := st_pf (fun g I J => eg_TextValuesModel_init_309 39 g I J 119 119 155) (by omega) rfl h
  replace h := st_ar (n' := 156) (q' := 106953) (k := 4000) (fun g I J => eg_TextValuesModel_init_312 39 g I J 119) rfl (by decide) (by decide) rfl rfl rfl (by omega) (by omega) h
  replace h := st_pf (fun g I J => eg_TextValuesModel_init_318 39 g I J 119 119 156) (by omega) rfl h
  replace h := st_ar (n' := 157) (q' := 107053) (k := 100) (fun g I J => eg_TextValuesModel_init_321 39 g I J 119) rfl (by decide) (by decide) rfl rfl rfl (by omega) (by omega) h
  replace h := st_pf (fun g I J => eg_TextValuesModel_init_326 39 g I J 119 119 157) (by omega) rfl h
  replace h := st_ar (n' := 158) (q' := 107213) (k := 160) (fun g I J => eg_TextValuesModel_init_329 39 g I J 119) rfl (by decide) (by decide) rfl rfl rfl (by omega) (by omega) h
  replace h := st_pf (fun g I J => eg_TextValuesModel_init_335 39 g I J 119 119 158) (by omega) rfl h
  replace h := st_ar (n' := 159) (q' := 107217) (k := 4) (fun g I J => eg_TextValuesModel_init_338 39 g I J 119) rfl (by decide) (by decide) rfl rfl rfl (by omega) (by omega) h
  replace h := st_pf (fun g I J => eg_TextValuesModel_init_342 39 g I J 119 119 159) (by omega) rfl h
  replace h := st_ar (n' := 160) (q' := 107377) (k := 160) (fun g I J => eg_TextValuesModel_init_345 39 g I J 119) rfl (by decide) (by decide) rfl rfl rfl (by omega) (by omega) h
  replace h := st_pf (fun g I J => eg_TextValuesModel_init_351 39 g I J 119 119 160) (by omega) rfl h
  replace h := st_ar (n' := 161) (q' := 107381) (k := 4) (fun g I J => eg_TextValuesModel_init_354 39 g I J 119) rfl (by decide) (by decide) rfl rfl rfl (by omega) (by omega) h
  replace h := st_pf (fun g I J => eg_TextValuesModel_init_358 39 g I J 119 119 161) (by omega) rfl h
  replace h := st_ar (n' := 162) (q' := 107421) (k := 40) (fun g I J => eg_TextValuesModel_init_361 39 g I J 119) rfl (by decide) (by decide) rfl rfl rfl (by omega) (by omega) h
  replace h := st_pf (fun g I J => eg_TextValuesModel_init_366 39 g I J 119 119 162) (by omega) rfl h
  replace h := st_ar (n' := 163) (q' := 107542) (k := 121) (fun g I J => eg_TextValuesModel_init_369 39 g I J 119) rfl (by decide) (by decide) rfl rfl rfl (by omega) (by omega) h
  replace h := st_pf (fun g I J => eg_TextValuesModel_init_374 39 g I J 119 119 163) (by omega) rfl h
  replace h := st_ar (n' := 164) (q' := 107663) (k := 121) (fun g I J => eg_TextValuesModel_init_377 39 g I J 119) rfl (by decide) (by decide) rfl rfl rfl (by omega) (by omega) h
  replace h := st_pf (fun g I J => eg_TextValuesModel_init_382 39 g I J 119 119 164) (by omega) rfl h
  replace h := st_ar (n' := 165) (q' := 107784) (k := 121) (fun g I J => eg_TextValuesModel_init_385 39 g I J 119) rfl (by decide) (by decide) rfl rfl rfl (by omega) (by omega) h
  replace h := st_pf (fun g I J => eg_TextValuesModel_init_390 39 g I J 119 119 165) (by omega) rfl h
  replace h := st_ar (n' := 166) (q' := 107905) (k := 121) (fun g I J => eg_TextValuesModel_init_393 39 g I J 119) rfl (by decide) (by decide) rfl rfl rfl (by omega) (by omega) h
  replace h := st_pf (fun g I J => eg_TextValuesModel_init_398 39 g I J 119 119 166) (by omega) rfl h
  replace h := st_ar (n' := 167) (q' := 108026) (k := 121) (fun g I J => eg_TextValuesModel_init_401 39 g I J 119) rfl (by decide) (by decide) rfl rfl rfl (by omega) (by omega) h
  replace h := st_pf (fun g I J => eg_TextValuesModel_init_406 39 g I J 119 119 167) (by omega) rfl h
  replace h := st_ar (n' := 168) (q' := 108147) (k := 121) (fun g I J => eg_TextValuesModel_init_409 39 g I J 119) rfl (by decide) (by decide) rfl rfl rfl (by omega) (by omega) h
  replace h := st_pf (fun g I J => eg_TextValuesModel_init_414 39 g I J 119 119 168) (by omega) rfl h
  replace h := st_ar (n' := 169) (q' := 108267) (k := 120) (fun g I J => eg_TextValuesModel_init_417 39 g I J 119) rfl (by decide) (by decide) rfl rfl rfl (by omega) (by omega) h
  replace h := st_pf (fun g I J => eg_TextValuesModel_init_422 39 g I J 119 119 169) (by omega) rfl h
  replace h := st_ar (n' := 170) (q' := 109773) (k := 1506) (fun g I J => eg_TextValuesModel_init_425 39 g I J 119) rfl (by decide) (by decide) rfl rfl rfl (by omega) (by omega) h
  replace h := st_pf (fun g I J => eg_TextValuesModel_init_431 39 g I J 119 119 170) (by omega) rfl h
  replace h := st_go (fun g I J => eg_TextValuesModel_init_434 39 g I J 119) h
  exact h
end WW

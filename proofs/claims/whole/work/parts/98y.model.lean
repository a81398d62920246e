/-! TOP: the constructors, walked (by wip/whole/geninit2.py) -/
set_option maxRecDepth 100000
set_option maxHeartbeats 8000000
section WW
variable {L : Nat} {xs : Nat → Int32}
theorem k_Model {rl : List (Nat × Nat × Option Nat)} {wl : List (Nat × Nat × Int32)} {jl : List (Nat × Nat × Int64)} (hb : hhB 117 rl wl jl) : At L xs (jcall 40 250 [.ref 117] (hhS L xs 117 4951 rl wl jl)) 39 250 436 [.ref 117, .int (0 : Int32)] [] 168 109751 ((117, 89, some 168) :: (117, 86, some 167) :: (117, 84, some 166) :: (117, 83, some 165) :: (117, 82, some 164) :: (117, 81, some 163) :: (117, 80, some 162) :: (117, 79, some 161) :: (117, 75, some 160) :: (117, 74, some 159) :: (117, 73, some 158) :: (117, 72, some 157) :: (117, 71, some 156) :: (117, 67, some 155) :: (117, 66, some 154) :: (117, 65, some 153) :: (117, 62, some 152) :: (117, 61, some 151) :: (117, 57, some 150) :: (117, 56, some 149) :: (117, 51, some 148) :: (117, 49, some 147) :: (117, 47, some 146) :: (117, 46, some 145) :: (117, 45, some 144) :: (117, 43, some 143) :: (117, 40, some 142) :: (117, 39, some 141) :: (117, 38, some 140) :: (117, 37, some 139) :: (117, 36, some 138) :: (117, 34, some 137) :: (117, 33, some 136) :: (117, 31, some 135) :: (117, 30, some 134) :: (117, 29, some 133) :: (117, 28, some 132) :: (117, 26, some 131) :: (117, 23, some 130) :: (117, 22, some 129) :: (117, 21, some 128) :: (117, 20, some 127) :: (117, 19, some 126) :: (117, 18, some 125) :: (117, 17, some 124) :: (117, 12, some 123) :: (117, 11, some 122) :: (117, 10, some 121) :: (117, 7, some 120) :: (117, 1, some 119) :: (117, 0, some 118) :: rl) ((117, 59, 1) :: (117, 58, 1) :: wl) jl := by
  have h : At L xs (jcall 40 250 [.ref 117] (hhS L xs 117 4951 rl wl jl)) 39 250 0 [.ref 117, jjunk] [] 117 4951 rl wl jl := ⟨rfl, hb⟩
  replace h := st_ar (n' := 118) (q' := 4954) (k := 3) (fun g I J => eg_TextValuesModel_init_0 39 g I J 117) rfl (by decide) (by decide) rfl rfl rfl (by omega) (by omega) h
  replace h := st_pf (fun g I J => eg_TextValuesModel_init_8 39 g I J 117 117 118) (by omega) rfl h
  replace h := st_ar (n' := 119) (q' := 6746) (k := 1792) (fun g I J => eg_TextValuesModel_init_11 39 g I J 117) rfl (by decide) (by decide) rfl rfl rfl (by omega) (by omega) h
  replace h := st_pf (fun g I J => eg_TextValuesModel_init_17 39 g I J 117 117 119) (by omega) rfl h
  replace h := st_ar (n' := 120) (q' := 6866) (k := 120) (fun g I J => eg_TextValuesModel_init_20 39 g I J 117) rfl (by decide) (by decide) rfl rfl rfl (by omega) (by omega) h
  replace h := st_pf (fun g I J => eg_TextValuesModel_init_25 39 g I J 117 117 120) (by omega) rfl h
  replace h := st_ar (n' := 121) (q' := 6876) (k := 10) (fun g I J => eg_TextValuesModel_init_28 39 g I J 117) rfl (by decide) (by decide) rfl rfl rfl (by omega) (by omega) h
  replace h := st_pf (fun g I J => eg_TextValuesModel_init_33 39 g I J 117 117 121) (by omega) rfl h
  replace h := st_ar (n' := 122) (q' := 6886) (k := 10) (fun g I J => eg_TextValuesModel_init_36 39 g I J 117) rfl (by decide) (by decide) rfl rfl rfl (by omega) (by omega) h
  replace h := st_pf (fun g I J => eg_TextValuesModel_init_41 39 g I J 117 117 122) (by omega) rfl h
  replace h := st_ar (n' := 123) (q' := 6889) (k := 3) (fun g I J => eg_TextValuesModel_init_44 39 g I J 117) rfl (by decide) (by decide) rfl rfl rfl (by omega) (by omega) h
  replace h := st_pf (fun g I J => eg_TextValuesModel_init_48 39 g I J 117 117 123) (by omega) rfl h
  replace h := st_ar (n' := 124) (q' := 17129) (k := 10240) (fun g I J => eg_TextValuesModel_init_51 39 g I J 117) rfl (by decide) (by decide) rfl rfl rfl (by omega) (by omega) h
  replace h := st_pf (fun g I J => eg_TextValuesModel_init_57 39 g I J 117 117 124) (by omega) rfl h
  replace h := st_ar (n' := 125) (q' := 27369) (k := 10240) (fun g I J => eg_TextValuesModel_init_60 39 g I J 117) rfl (by decide) (by decide) rfl rfl rfl (by omega) (by omega) h
  replace h := st_pf (fun g I J => eg_TextValuesModel_init_66 39 g I J 117 117 125) (by omega) rfl h
  replace h := st_ar (n' := 126) (q' := 58089) (k := 30720) (fun g I J => eg_TextValuesModel_init_69 39 g I J 117) rfl (by decide) (by decide) rfl rfl rfl (by omega) (by omega) h
  replace h := st_pf (fun g I J => eg_TextValuesModel_init_75 39 g I J 117 117 126) (by omega) rfl h
  replace h := st_ar (n' := 127) (q' := 68329) (k := 10240) (fun g I J => eg_TextValuesModel_init_78 39 g I J 117) rfl (by decide) (by decide) rfl rfl rfl (by omega) (by omega) h
  replace h := st_pf (fun g I J => eg_TextValuesModel_init_84 39 g I J 117 117 127) (by omega) rfl h
  replace h := st_ar (n' := 128) (q' := 78569) (k := 10240) (fun g I J => eg_TextValuesModel_init_87 39 g I J 117) rfl (by decide) (by decide) rfl rfl rfl (by omega) (by omega) h
  replace h := st_pf (fun g I J => eg_TextValuesModel_init_93 39 g I J 117 117 128) (by omega) rfl h
  replace h := st_ar (n' := 129) (q' := 88809) (k := 10240) (fun g I J => eg_TextValuesModel_init_96 39 g I J 117) rfl (by decide) (by decide) rfl rfl rfl (by omega) (by omega) h
  replace h := st_pf (fun g I J => eg_TextValuesModel_init_102 39 g I J 117 117 129) (by omega) rfl h
  replace h := st_ar (n' := 130) (q' := 99049) (k := 10240) (fun g I J => eg_TextValuesModel_init_105 39 g I J 117) rfl (by decide) (by decide) rfl rfl rfl (by omega) (by omega) h
  replace h := st_pf (fun g I J => eg_TextValuesModel_init_111 39 g I J 117 117 130) (by omega) rfl h
  replace h := st_ar (n' := 131) (q' := 99060) (k := 11) (fun g I J => eg_TextValuesModel_init_114 39 g I J 117) rfl (by decide) (by decide) rfl rfl rfl (by omega) (by omega) h
  replace h := st_pf (fun g I J => eg_TextValuesModel_init_119 39 g I J 117 117 131) (by omega) rfl h
  replace h := st_ar (n' := 132) (q' := 99070) (k := 10) (fun g I J => eg_TextValuesModel_init_122 39 g I J 117) rfl (by decide) (by decide) rfl rfl rfl (by omega) (by omega) h
  replace h := st_pf (fun g I J => eg_TextValuesModel_init_127 39 g I J 117 117 132) (by omega) rfl h
  replace h := st_ar (n' := 133) (q' := 99080) (k := 10) (fun g I J => eg_TextValuesModel_init_130 39 g I J 117) rfl (by decide) (by decide) rfl rfl rfl (by omega) (by omega) h
  replace h := st_pf (fun g I J => eg_TextValuesModel_init_135 39 g I J 117 117 133) (by omega) rfl h
  replace h := st_ar (n' := 134) (q' := 101290) (k := 2210) (fun g I J => eg_TextValuesModel_init_138 39 g I J 117) rfl (by decide) (by decide) rfl rfl rfl (by omega) (by omega) h
  replace h := st_pf (fun g I J => eg_TextValuesModel_init_144 39 g I J 117 117 134) (by omega) rfl h
  replace h := st_ar (n' := 135) (q' := 101510) (k := 220) (fun g I J => eg_TextValuesModel_init_147 39 g I J 117) rfl (by decide) (by decide) rfl rfl rfl (by omega) (by omega) h
  replace h := st_pf (fun g I J => eg_TextValuesModel_init_153 39 g I J 117 117 135) (by omega) rfl h
  replace h := st_ar (n' := 136) (q' := 101520) (k := 10) (fun g I J => eg_TextValuesModel_init_156 39 g I J 117) rfl (by decide) (by decide) rfl rfl rfl (by omega) (by omega) h
  replace h := st_pf (fun g I J => eg_TextValuesModel_init_161 39 g I J 117 117 136) (by omega) rfl h
  replace h := st_ar (n' := 137) (q' := 101530) (k := 10) (fun g I J => eg_TextValuesModel_init_164 39 g I J 117) rfl (by decide) (by decide) rfl rfl rfl (by omega) (by omega) h
  replace h := st_pf (fun g I J => eg_TextValuesModel_init_169 39 g I J 117 117 137) (by omega) rfl h
  replace h := st_ar (n' := 138) (q' := 101660) (k := 130) (fun g I J => eg_TextValuesModel_init_172 39 g I J 117) rfl (by decide) (by decide) rfl rfl rfl (by omega) (by omega) h
  replace h := st_pf (fun g I J => eg_TextValuesModel_init_178 39 g I J 117 117 138) (by omega) rfl h
  replace h := st_ar (n' := 139) (q' := 101790) (k := 130) (fun g I J => eg_TextValuesModel_init_181 39 g I J 117) rfl (by decide) (by decide) rfl rfl rfl (by omega) (by omega) h
  replace h := st_pf (fun g I J => eg_TextValuesModel_init_187 39 g I J 117 117 139) (by omega) rfl h
  replace h := st_ar (n' := 140) (q' := 101920) (k := 130) (fun g I J => eg_TextValuesModel_init_190 39 g I J 117) rfl (by decide) (by decide) rfl rfl rfl (by omega) (by omega) h
  replace h := st_pf (fun g I J => eg_TextValuesModel_init_196 39 g I J 117 117 140) (by omega) rfl h
  replace h := st_ar (n' := 141) (q' := 102050) (k := 130) (fun g I J => eg_TextValuesModel_init_199 39 g I J 117) rfl (by decide) (by decide) rfl rfl rfl (by omega) (by omega) h
  replace h := st_pf (fun g I J => eg_TextValuesModel_init_205 39 g I J 117 117 141) (by omega) rfl h
  replace h := st_ar (n' := 142) (q' := 102180) (k := 130) (fun g I J => eg_TextValuesModel_init_208 39 g I J 117) rfl (by decide) (by decide) rfl rfl rfl (by omega) (by omega) h
  replace h := st_pf (fun g I J => eg_TextValuesModel_init_214 39 g I J 117 117 142) (by omega) rfl h
  replace h := st_ar (n' := 143) (q' := 102220) (k := 40) (fun g I J => eg_TextValuesModel_init_217 39 g I J 117) rfl (by decide) (by decide) rfl rfl rfl (by omega) (by omega) h
  replace h := st_pf (fun g I J => eg_TextValuesModel_init_222 39 g I J 117 117 143) (by omega) rfl h
  replace h := st_ar (n' := 144) (q' := 102340) (k := 120) (fun g I J => eg_TextValuesModel_init_225 39 g I J 117) rfl (by decide) (by decide) rfl rfl rfl (by omega) (by omega) h
  replace h := st_pf (fun g I J => eg_TextValuesModel_init_230 39 g I J 117 117 144) (by omega) rfl h
  replace h := st_ar (n' := 145) (q' := 102460) (k := 120) (fun g I J => eg_TextValuesModel_init_233 39 g I J 117) rfl (by decide) (by decide) rfl rfl rfl (by omega) (by omega) h
  replace h := st_pf (fun g I J => eg_TextValuesModel_init_238 39 g I J 117 117 145) (by omega) rfl h
  replace h := st_ar (n' := 146) (q' := 102580) (k := 120) (fun g I J => eg_TextValuesModel_init_241 39 g I J 117) rfl (by decide) (by decide) rfl rfl rfl (by omega) (by omega) h
  replace h := st_pf (fun g I J => eg_TextValuesModel_init_246 39 g I J 117 117 146) (by omega) rfl h
  replace h := st_ar (n' := 147) (q' := 102700) (k := 120) (fun g I J => eg_TextValuesModel_init_249 39 g I J 117) rfl (by decide) (by decide) rfl rfl rfl (by omega) (by omega) h
  replace h := st_pf (fun g I J => eg_TextValuesModel_init_254 39 g I J 117 117 147) (by omega) rfl h
  replace h := st_ar (n' := 148) (q' := 102820) (k := 120) (fun g I J => eg_TextValuesModel_init_257 39 g I J 117) rfl (by decide) (by decide) rfl rfl rfl (by omega) (by omega) h
  replace h := st_pf (fun g I J => eg_TextValuesModel_init_262 39 g I J 117 117 148) (by omega) rfl h
  replace h := st_ar (n' := 149) (q' := 102825) (k := 5) (fun g I J => eg_TextValuesModel_init_265 39 g I J 117) rfl (by decide) (by decide) rfl rfl rfl (by omega) (by omega) h
  replace h := st_pf (fun g I J => eg_TextValuesModel_init_269 39 g I J 117 117 149) (by omega) rfl h
  replace h := st_ar (n' := 150) (q' := 102830) (k := 5) (fun g I J => eg_TextValuesModel_init_272 39 g I J 117) rfl (by decide) (by decide) rfl rfl rfl (by omega) (by omega) h
  replace h := st_pf (fun g I J => eg_TextValuesModel_init_276 39 g I J 117 117 150) (by omega) rfl h
  replace h := st_M279 (n' := 151) (q' := 102886) (by omega) rfl rfl rfl rfl rfl (by omega) (by omega) h
  replace h := st_pf (fun g I J => eg_TextValuesModel_init_294 39 g I J 117 117 151) (by omega) rfl h
  replace h := st_ar (n' := 152) (q' := 102891) (k := 5) (fun g I J => eg_TextValuesModel_init_297 39 g I J 117) rfl (by decide) (by decide) rfl rfl rfl (by omega) (by omega) h
  replace h := st_pf (fun g I J => eg_TextValuesModel_init_301 39 g I J 117 117 152) (by omega) rfl h
  replace h := st_ar (n' := 153) (q' := 102931) (k := 40) (fun g I J => eg_TextValuesModel_init_304 39 g I J 117) rfl (by decide) (by decide) rfl rfl rfl (by omega) (by omega) h
  replace h := st_pf (fun g I J => eg_TextValuesModel_init_309 39 g I J 117 117 153) (by omega) rfl h
  replace h := st_ar (n' := 154) (q' := 106931) (k := 4000) (fun g I J => eg_TextValuesModel_init_312 39 g I J 117) rfl (by decide) (by decide) rfl rfl rfl (by omega) (by omega) h
  replace h := st_pf (fun g I J => eg_TextValuesModel_init_318 39 g I J 117 117 154) (by omega) rfl h
  replace h := st_ar (n' := 155) (q' := 107031) (k := 100) (fun g I J => eg_TextValuesModel_init_321 39 g I J 117) rfl (by decide) (by decide) rfl rfl rfl (by omega) (by omega) h
  replace h := st_pf (fun g I J => eg_TextValuesModel_init_326 39 g I J 117 117 155) (by omega) rfl h
  replace h := st_ar (n' := 156) (q' := 107191) (k := 160) (fun g I J => eg_TextValuesModel_init_329 39 g I J 117) rfl (by decide) (by decide) rfl rfl rfl (by omega) (by omega) h
  replace h := st_pf (fun g I J => eg_TextValuesModel_init_335 39 g I J 117 117 156) (by omega) rfl h
  replace h := st_ar (n' := 157) (q' := 107195) (k := 4) (fun g I J => eg_TextValuesModel_init_338 39 g I J 117) rfl (by decide) (by decide) rfl rfl rfl (by omega) (by omega) h
  replace h := st_pf (fun g I J => eg_TextValuesModel_init_342 39 g I J 117 117 157) (by omega) rfl h
  replace h := st_ar (n' := 158) (q' := 107355) (k := 160) (fun g I J => eg_TextValuesModel_init_345 39 g I J 117) rfl (by decide) (by decide) rfl rfl rfl (by omega) (by omega) h
  replace h := st_pf (fun g I J => eg_TextValuesModel_init_351 39 g I J 117 117 158) (by omega) rfl h
  replace h := st_ar (n' := 159) (q' := 107359) (k := 4) (fun g I J => eg_TextValuesModel_init_354 39 g I J 117) rfl (by decide) (by decide) rfl rfl rfl (by omega) (by omega) h
  replace h := st_pf (fun g I J => eg_TextValuesModel_init_358 39 g I J 117 117 159) (by omega) rfl h
  replace h := st_ar (n' := 160) (q' := 107399) (k := 40) (fun g I J => eg_TextValuesModel_init_361 39 g I J 117) rfl (by decide) (by decide) rfl rfl rfl (by omega) (by omega) h
  replace h := st_pf (fun g I J => eg_TextValuesModel_init_366 39 g I J 117 117 160) (by omega) rfl h
  replace h := st_ar (n' := 161) (q' := 107520) (k := 121) (fun g I J => eg_TextValuesModel_init_369 39 g I J 117) rfl (by decide) (by decide) rfl rfl rfl (by omega) (by omega) h
  replace h := st_pf (fun g I J => eg_TextValuesModel_init_374 39 g I J 117 117 161) (by omega) rfl h
  replace h := st_ar (n' := 162) (q' := 107641) (k := 121) (fun g I J => eg_TextValuesModel_init_377 39 g I J 117) rfl (by decide) (by decide) rfl rfl rfl (by omega) (by omega) h
  replace h := st_pf (fun g I J => eg_TextValuesModel_init_382 39 g I J 117 117 162) (by omega) rfl h
  replace h := st_ar (n' := 163) (q' := 107762) (k := 121) (fun g I J => eg_TextValuesModel_init_385 39 g I J 117) rfl (by decide) (by decide) rfl rfl rfl (by omega) (by omega) h
  replace h := st_pf (fun g I J => eg_TextValuesModel_init_390 39 g I J 117 117 163) (by omega) rfl h
  replace h := st_ar (n' := 164) (q' := 107883) (k := 121) (fun g I J => eg_TextValuesModel_init_393 39 g I J 117) rfl (by decide) (by decide) rfl rfl rfl (by omega) (by omega) h
  replace h := st_pf (fun g I J => eg_TextValuesModel_init_398 39 g I J 117 117 164) (by omega) rfl h
  replace h := st_ar (n' := 165) (q' := 108004) (k := 121) (fun g I J => eg_TextValuesModel_init_401 39 g I J 117) rfl (by decide) (by decide) rfl rfl rfl (by omega) (by omega) h
  replace h := st_pf (fun g I J => eg_TextValuesModel_init_406 39 g I J 117 117 165) (by omega) rfl h
  replace h := st_ar (n' := 166) (q' := 108125) (k := 121) (fun g I J => eg_TextValuesModel_init_409 39 g I J 117) rfl (by decide) (by decide) rfl rfl rfl (by omega) (by omega) h
  replace h := st_pf (fun g I J => eg_TextValuesModel_init_414 39 g I J 117 117 166) (by omega) rfl h
  replace h := st_ar (n' := 167) (q' := 108245) (k := 120) (fun g I J => eg_TextValuesModel_init_417 39 g I J 117) rfl (by decide) (by decide) rfl rfl rfl (by omega) (by omega) h
  replace h := st_pf (fun g I J => eg_TextValuesModel_init_422 39 g I J 117 117 167) (by omega) rfl h
  replace h := st_ar (n' := 168) (q' := 109751) (k := 1506) (fun g I J => eg_TextValuesModel_init_425 39 g I J 117) rfl (by decide) (by decide) rfl rfl rfl (by omega) (by omega) h
  replace h := st_pf (fun g I J => eg_TextValuesModel_init_431 39 g I J 117 117 168) (by omega) rfl h
  replace h := st_go (fun g I J => eg_TextValuesModel_init_434 39 g I J 117) h
  exact h
end WW

set_option maxRecDepth 100000
set_option maxHeartbeats 4000000
/-- the tables' words by chunks -/
def jtb (k : Nat) : List Cond := match k with
  | 0 => k2_sels lw_privs
  | 1 => tables_1_1
  | 2 => tables_1_2
  | 3 => tables_1_3
  | 4 => tables_1_4
  | 5 => tables_1_5
  | 6 => tables_1_6
  | 7 => tables_1_7
  | 8 => tables_1_8
  | _ => []
def jtp (q : Nat) : Option Cond := (jtb (q / 1000))[q % 1000]?
theorem jtb_in {k : Nat} {w : Cond} (h : w ∈ jtb k) : w ∈ lw_tbl := by
  unfold lw_tbl tables_1
  simp only [List.mem_append]
  unfold jtb at h
  split at h <;> first | (simp [h]; done) | (cases h; done)
theorem jtp_in {q : Nat} {w : Cond} (h : jtp q = some w) : w ∈ lw_tbl := jtb_in (List.mem_of_getElem? h)
def jlaw : Nat := 277
/-- the words of a field's link -/
def jfw (own : Nat) (e : Nat × Nat × Nat × Nat × Nat) : Cond := bif e.2.2.2.1.beq 0 then .fieldLink (jow own) e.1 (jow e.2.1) (jT e.2.1 e.2.2.1).2.1 (jT e.2.1 e.2.2.1).2.2.1 else .fieldLinkNest (jow own) e.1 (jow e.2.1) (jT e.2.1 e.2.2.1).2.1 (jT e.2.1 e.2.2.1).2.2.1 "TextValues"
theorem jfd_all : ∀ own, own < 16 → ∀ e ∈ jnth jfds own [], (e.2.1 < 13 ∧ e.2.2.1 < jN e.2.1) ∧ jtp e.2.2.2.2 = some (jfw own e) := by decide +kernel
def jmw (own : Nat) (e : Nat × Nat × Nat × Nat) : Cond := bif e.2.1.beq 1000 then .methodLink (jow own) e.1 objectInit else bif e.2.1.beq 1001 then .methodLink (jow own) e.1 arraycopyName else bif e.2.1.beq 1002 then .methodLink (jow own) e.1 Lib.Math.max.name else bif e.2.1.beq 1003 then .methodLink (jow own) e.1 Lib.Math.min.name else bif e.2.2.1.beq 0 then .methodLink (jow own) e.1 (jmn e.2.1) else .methodLinkNest (jow own) e.1 (jmn e.2.1) "TextValues"
theorem jlk_all : ∀ own, own < 16 → ∀ e ∈ jnth jlks own [], (e.2.1 < 282 ∧ e.2.1 ≠ jlaw ∨ e.2.1 = 1000 ∨ e.2.1 = 1001 ∨ e.2.1 = 1002 ∨ e.2.1 = 1003) ∧ jtp e.2.2.2 = some (jmw own e) := by decide +kernel
theorem jck_all : ∀ own, own < 16 → ∀ e ∈ jnth jcks own [], jtp e.2.2 = some (.classLink (jow own) e.1 (jow e.2.1)) := by decide +kernel
theorem jki_all : ∀ own, own < 16 → ∀ e ∈ jnth jkis own [], jtp e.2.2 = some (.constant (jow own) e.1 e.2.1) := by decide +kernel
theorem jkj_all : ∀ own, own < 16 → ∀ e ∈ jnth jkjs own [], jtp e.2.2 = some (.constantLong (jow own) e.1 e.2.1) := by decide +kernel
theorem jip_all : ∀ own, own < 16 → jtp (jip own) = some (.initialized (jow own)) := by decide +kernel
theorem jxp_all : ∀ ci, ci < 13 → jtp (jxp ci) = some (.instantiable (jow ci) (jN ci)) := by decide +kernel
def jow_ok (n : Nat) : Bool := decide ((jmt n).1 < 16) && decide ((jmt n).2.1 ≤ 20) && decide ((jmn n).cls = jow (jmt n).1) && decide ((jmn n).cls ≠ "java/lang/invoke/MethodHandle") && decide ((jmn n).cls ≠ "java/lang/invoke/VarHandle") && decide ((parseMethodDescriptor (jmn n).desc).map (fun d => d.parameters.length) = some (jmt n).2.2.2.1) && plainName (jmn n).cls
theorem jow_all : ∀ n, n < 282 → jow_ok n = true := by decide +kernel
def jrt_ok (n : Nat) : Bool := match (jmt n).2.2.1 with
  | 0 => decide (jrt n = none)
  | 1 => decide (jrt n = some .int)
  | 2 => decide (jrt n = some .long)
  | 4 => decide (jrt n = some .boolean)
  | _ => match jrt n with
    | some (.object _) => true
    | some (.array _) => true
    | _ => false
theorem jrt_all : ∀ n, n < 282 → jrt_ok n = true := by decide +kernel
/-- what a method is: an instance's, static, a constructor -/
def jmk (n : Nat) : Cond := bif (jmt n).2.2.2.2.1.beq 1 then .static (jmn n) else .instanceMethod (jmn n)
theorem jmk_all : ∀ n, n < 282 → n ≠ jlaw → jtp (jpl n).2.1 = some (jmk n) := by decide +kernel
theorem jsl_all : ∀ n, n < 282 → n ≠ jlaw → (jmt n).2.2.2.2.1 = 0 → jtp (jpl n).2.2 = some (.selects (jmn n).cls (jmn n) (jmn n)) := by decide +kernel
theorem jin_all : ∀ n, n < 282 → (jmt n).2.2.2.2.1 = 2 → (jmn n).name = "<init>" := by decide +kernel
def jty_ok (ci k : Nat) : Bool := match jtg ci k with
  | 0 => decide (jty ci k = .int)
  | 1 => decide (jty ci k = .long)
  | 3 => decide (jty ci k = .boolean)
  | _ => (jty ci k).isReference
theorem jty_all : ∀ ci, ci < 13 → ∀ k, k < jN ci → parseFieldDescriptor (jT ci k).2.2.1 = some (jty ci k) ∧ (jT ci k).1 = jow ci ∧ jty_ok ci k = true := by decide +kernel
theorem jnm_all : ∀ ci, ci < 13 → ∀ a, a < jN ci → ∀ b, b < jN ci → a ≠ b → (jT ci a).2.1 ≠ (jT ci b).2.1 := by decide +kernel
def jlps : List (List Nat) := [[2062, 2064, 2066, 2068, 2070, 2072, 2074, 2076, 2078, 2080, 2082], [1052, 1054, 1056, 1058], [1162, 1164, 1166, 1168, 1170, 1172, 1174, 1176, 1178, 1180, 1182, 1184, 1186, 1188, 1190, 1192, 1194], [3116, 3118, 3120, 3122, 3124, 3126, 3128], [1211, 1213, 1215, 1217, 1219, 1221, 1223, 1225], [1075, 1077, 1079, 1081], [2005, 2007, 2009, 2011, 2013, 2015, 2017, 2019, 2021, 2023], [2104, 2106, 2108, 2110, 2112, 2114, 2116, 2118, 2120, 2122, 2124, 2126, 2128], [1100, 1102, 1104, 1106], [2043, 2045], [1123, 1125, 1127, 1129, 1131, 1133, 1135], [2145, 2147, 2149, 2151, 2153, 2155, 2157, 2159, 2161, 2163, 2165, 2167, 2169, 2171], [7029, 7031, 7033, 7035, 7037, 7039, 7041, 7043, 7045, 7047, 7049, 7051, 7053, 7055, 7057, 7059, 7061, 7063, 7065, 7067, 7069, 7071, 7073, 7075, 7077, 7079, 7081, 7083, 7085, 7087, 7089, 7091, 7093, 7095, 7097, 7099, 7101, 7103, 7105, 7107, 7109, 7111, 7113, 7115, 7117, 7119, 7121, 7123, 7125, 7127, 7129, 7131, 7133, 7135, 7137, 7139, 7141, 7143, 7145, 7147, 7149, 7151, 7153, 7155, 7157, 7159, 7161, 7163, 7165, 7167, 7169, 7171, 7173, 7175, 7177, 7179, 7181, 7183, 7185, 7187, 7189, 7191, 7193, 7195, 7197, 7199, 7201, 7203, 7205, 7207]]
def jlp (ci k : Nat) : Nat := jnth (jnth jlps ci []) k 0
theorem jws_all : ∀ ci, ci < 13 → ∀ k, k < jN ci → jtp (jlp ci k) = some (u_lay (jow ci) (jT ci) k) := by decide +kernel
theorem jac_all : (jtp 1061 = some (.arrayClass .byte) ∧ jtp 1084 = some (.arrayClass .int) ∧ jtp 1138 = some (.arrayClass .long)) ∧ (jtp 1031 = some (.arrayOver (.object "TextValues$Lang")) ∧ jtp 1109 = some (.arrayOver (.object "TextValues$Setup")) ∧ jtp 2048 = some (.arrayOver (.object "TextValues$State"))) ∧ (jtp 3185 = some (.native arraycopyName) ∧ jtp 3184 = some (.static arraycopyName) ∧ jtp 1016 = some (.initialized "java/lang/System")) ∧ jtp 1023 = some (.instanceMethod objectInit) ∧ (jtp 4151 = some (.static Lib.Math.max.name) ∧ jtp 2199 = some (.static Lib.Math.min.name) ∧ jtp 1014 = some (.initialized "java/lang/Math")) := by decide +kernel
theorem joi_all : jtp 1024 = some (.code objectInit ⟨#[0xb1]⟩ 1 none) := by rfl
theorem jmx_all : jtp 4152 = some (.code Lib.Math.max.name Lib.Math.max.code 2 (some .int)) := by rfl
theorem jmm_all : jtp 2200 = some (.code Lib.Math.min.name Lib.Math.min.code 2 (some .int)) := by rfl
def jcwd (n : Nat) : Cond := .code (jmn n) (jby n) (jmt n).2.1 (jrt n)
def jcwP (n : Nat) : Prop := jtp (jpl n).1 = some (jcwd n)
theorem jcw_0 : jcwP 0 := rfl
theorem jcw_1 : jcwP 1 := rfl
theorem jcw_2 : jcwP 2 := rfl
theorem jcw_3 : jcwP 3 := rfl
theorem jcw_4 : jcwP 4 := rfl
theorem jcw_5 : jcwP 5 := rfl
theorem jcw_6 : jcwP 6 := rfl
theorem jcw_7 : jcwP 7 := rfl
theorem jcw_8 : jcwP 8 := rfl
theorem jcw_9 : jcwP 9 := rfl
theorem jcw_10 : jcwP 10 := rfl
theorem jcw_11 : jcwP 11 := rfl
theorem jcw_12 : jcwP 12 := rfl
theorem jcw_13 : jcwP 13 := rfl
theorem jcw_14 : jcwP 14 := rfl
theorem jcw_15 : jcwP 15 := rfl
theorem jcw_16 : jcwP 16 := rfl
theorem jcw_17 : jcwP 17 := rfl
theorem jcw_18 : jcwP 18 := rfl
theorem jcw_19 : jcwP 19 := rfl
theorem jcw_20 : jcwP 20 := rfl
theorem jcw_21 : jcwP 21 := rfl
theorem jcw_22 : jcwP 22 := rfl
theorem jcw_23 : jcwP 23 := rfl
theorem jcw_24 : jcwP 24 := rfl
theorem jcw_25 : jcwP 25 := rfl
theorem jcw_26 : jcwP 26 := rfl
theorem jcw_27 : jcwP 27 := rfl
theorem jcw_28 : jcwP 28 := rfl
theorem jcw_29 : jcwP 29 := rfl
theorem jcw_30 : jcwP 30 := rfl
theorem jcw_31 : jcwP 31 := rfl
theorem jcw_32 : jcwP 32 := rfl
theorem jcw_33 : jcwP 33 := rfl
theorem jcw_34 : jcwP 34 := rfl
theorem jcw_35 : jcwP 35 := rfl
theorem jcw_36 : jcwP 36 := rfl
theorem jcw_37 : jcwP 37 := rfl
theorem jcw_38 : jcwP 38 := rfl
theorem jcw_39 : jcwP 39 := rfl
theorem jcw_40 : jcwP 40 := rfl
theorem jcw_41 : jcwP 41 := rfl
theorem jcw_42 : jcwP 42 := rfl
theorem jcw_43 : jcwP 43 := rfl
theorem jcw_44 : jcwP 44 := rfl
theorem jcw_45 : jcwP 45 := rfl
theorem jcw_46 : jcwP 46 := rfl
theorem jcw_47 : jcwP 47 := rfl
theorem jcw_48 : jcwP 48 := rfl
theorem jcw_49 : jcwP 49 := rfl
theorem jcw_50 : jcwP 50 := rfl
theorem jcw_51 : jcwP 51 := rfl
theorem jcw_52 : jcwP 52 := rfl
theorem jcw_53 : jcwP 53 := rfl
theorem jcw_54 : jcwP 54 := rfl
theorem jcw_55 : jcwP 55 := rfl
theorem jcw_56 : jcwP 56 := rfl
theorem jcw_57 : jcwP 57 := rfl
theorem jcw_58 : jcwP 58 := rfl
theorem jcw_59 : jcwP 59 := rfl
theorem jcw_60 : jcwP 60 := rfl
theorem jcw_61 : jcwP 61 := rfl
theorem jcw_62 : jcwP 62 := rfl
theorem jcw_63 : jcwP 63 := rfl
theorem jcw_64 : jcwP 64 := rfl
theorem jcw_65 : jcwP 65 := rfl
theorem jcw_66 : jcwP 66 := rfl
theorem jcw_67 : jcwP 67 := rfl
theorem jcw_68 : jcwP 68 := rfl
theorem jcw_69 : jcwP 69 := rfl
theorem jcw_70 : jcwP 70 := rfl
theorem jcw_71 : jcwP 71 := rfl
theorem jcw_72 : jcwP 72 := rfl
theorem jcw_73 : jcwP 73 := rfl
theorem jcw_74 : jcwP 74 := rfl
theorem jcw_75 : jcwP 75 := rfl
theorem jcw_76 : jcwP 76 := rfl
theorem jcw_77 : jcwP 77 := rfl
theorem jcw_78 : jcwP 78 := rfl
theorem jcw_79 : jcwP 79 := rfl
theorem jcw_80 : jcwP 80 := rfl
theorem jcw_81 : jcwP 81 := rfl
theorem jcw_82 : jcwP 82 := rfl
theorem jcw_83 : jcwP 83 := rfl
theorem jcw_84 : jcwP 84 := rfl
theorem jcw_85 : jcwP 85 := rfl
theorem jcw_86 : jcwP 86 := rfl
theorem jcw_87 : jcwP 87 := rfl
theorem jcw_88 : jcwP 88 := rfl
theorem jcw_89 : jcwP 89 := rfl
theorem jcw_90 : jcwP 90 := rfl
theorem jcw_91 : jcwP 91 := rfl
theorem jcw_92 : jcwP 92 := rfl
theorem jcw_93 : jcwP 93 := rfl
theorem jcw_94 : jcwP 94 := rfl
theorem jcw_95 : jcwP 95 := rfl
theorem jcw_96 : jcwP 96 := rfl
theorem jcw_97 : jcwP 97 := rfl
theorem jcw_98 : jcwP 98 := rfl
theorem jcw_99 : jcwP 99 := rfl
theorem jcw_100 : jcwP 100 := rfl
theorem jcw_101 : jcwP 101 := rfl
theorem jcw_102 : jcwP 102 := rfl
theorem jcw_103 : jcwP 103 := rfl
theorem jcw_104 : jcwP 104 := rfl
theorem jcw_105 : jcwP 105 := rfl
theorem jcw_106 : jcwP 106 := rfl
theorem jcw_107 : jcwP 107 := rfl
theorem jcw_108 : jcwP 108 := rfl
theorem jcw_109 : jcwP 109 := rfl
theorem jcw_110 : jcwP 110 := rfl
theorem jcw_111 : jcwP 111 := rfl
theorem jcw_112 : jcwP 112 := rfl
theorem jcw_113 : jcwP 113 := rfl
theorem jcw_114 : jcwP 114 := rfl
theorem jcw_115 : jcwP 115 := rfl
theorem jcw_116 : jcwP 116 := rfl
theorem jcw_117 : jcwP 117 := rfl
theorem jcw_118 : jcwP 118 := rfl
theorem jcw_119 : jcwP 119 := rfl
theorem jcw_120 : jcwP 120 := rfl
theorem jcw_121 : jcwP 121 := rfl
theorem jcw_122 : jcwP 122 := rfl
theorem jcw_123 : jcwP 123 := rfl
theorem jcw_124 : jcwP 124 := rfl
theorem jcw_125 : jcwP 125 := rfl
theorem jcw_126 : jcwP 126 := rfl
theorem jcw_127 : jcwP 127 := rfl
theorem jcw_128 : jcwP 128 := rfl
theorem jcw_129 : jcwP 129 := rfl
theorem jcw_130 : jcwP 130 := rfl
theorem jcw_131 : jcwP 131 := rfl
theorem jcw_132 : jcwP 132 := rfl
theorem jcw_133 : jcwP 133 := rfl
theorem jcw_134 : jcwP 134 := rfl
theorem jcw_135 : jcwP 135 := rfl
theorem jcw_136 : jcwP 136 := rfl
theorem jcw_137 : jcwP 137 := rfl
theorem jcw_138 : jcwP 138 := rfl
theorem jcw_139 : jcwP 139 := rfl
theorem jcw_140 : jcwP 140 := rfl
theorem jcw_141 : jcwP 141 := rfl
theorem jcw_142 : jcwP 142 := rfl
theorem jcw_143 : jcwP 143 := rfl
theorem jcw_144 : jcwP 144 := rfl
theorem jcw_145 : jcwP 145 := rfl
theorem jcw_146 : jcwP 146 := rfl
theorem jcw_147 : jcwP 147 := rfl
theorem jcw_148 : jcwP 148 := rfl
theorem jcw_149 : jcwP 149 := rfl
theorem jcw_150 : jcwP 150 := rfl
theorem jcw_151 : jcwP 151 := rfl
theorem jcw_152 : jcwP 152 := rfl
theorem jcw_153 : jcwP 153 := rfl
theorem jcw_154 : jcwP 154 := rfl
theorem jcw_155 : jcwP 155 := rfl
theorem jcw_156 : jcwP 156 := rfl
theorem jcw_157 : jcwP 157 := rfl
theorem jcw_158 : jcwP 158 := rfl
theorem jcw_159 : jcwP 159 := rfl
theorem jcw_160 : jcwP 160 := rfl
theorem jcw_161 : jcwP 161 := rfl
theorem jcw_162 : jcwP 162 := rfl
theorem jcw_163 : jcwP 163 := rfl
theorem jcw_164 : jcwP 164 := rfl
theorem jcw_165 : jcwP 165 := rfl
theorem jcw_166 : jcwP 166 := rfl
theorem jcw_167 : jcwP 167 := rfl
theorem jcw_168 : jcwP 168 := rfl
theorem jcw_169 : jcwP 169 := rfl
theorem jcw_170 : jcwP 170 := rfl
theorem jcw_171 : jcwP 171 := rfl
theorem jcw_172 : jcwP 172 := rfl
theorem jcw_173 : jcwP 173 := rfl
theorem jcw_174 : jcwP 174 := rfl
theorem jcw_175 : jcwP 175 := rfl
theorem jcw_176 : jcwP 176 := rfl
theorem jcw_177 : jcwP 177 := rfl
theorem jcw_178 : jcwP 178 := rfl
theorem jcw_179 : jcwP 179 := rfl
theorem jcw_180 : jcwP 180 := rfl
theorem jcw_181 : jcwP 181 := rfl
theorem jcw_182 : jcwP 182 := rfl
theorem jcw_183 : jcwP 183 := rfl
theorem jcw_184 : jcwP 184 := rfl
theorem jcw_185 : jcwP 185 := rfl
theorem jcw_186 : jcwP 186 := rfl
theorem jcw_187 : jcwP 187 := rfl
theorem jcw_188 : jcwP 188 := rfl
theorem jcw_189 : jcwP 189 := rfl
theorem jcw_190 : jcwP 190 := rfl
theorem jcw_191 : jcwP 191 := rfl
theorem jcw_192 : jcwP 192 := rfl
theorem jcw_193 : jcwP 193 := rfl
theorem jcw_194 : jcwP 194 := rfl
theorem jcw_195 : jcwP 195 := rfl
theorem jcw_196 : jcwP 196 := rfl
theorem jcw_197 : jcwP 197 := rfl
theorem jcw_198 : jcwP 198 := rfl
theorem jcw_199 : jcwP 199 := rfl
theorem jcw_200 : jcwP 200 := rfl
theorem jcw_201 : jcwP 201 := rfl
theorem jcw_202 : jcwP 202 := rfl
theorem jcw_203 : jcwP 203 := rfl
theorem jcw_204 : jcwP 204 := rfl
theorem jcw_205 : jcwP 205 := rfl
theorem jcw_206 : jcwP 206 := rfl
theorem jcw_207 : jcwP 207 := rfl
theorem jcw_208 : jcwP 208 := rfl
theorem jcw_209 : jcwP 209 := rfl
theorem jcw_210 : jcwP 210 := rfl
theorem jcw_211 : jcwP 211 := rfl
theorem jcw_212 : jcwP 212 := rfl
theorem jcw_213 : jcwP 213 := rfl
theorem jcw_214 : jcwP 214 := rfl
theorem jcw_215 : jcwP 215 := rfl
theorem jcw_216 : jcwP 216 := rfl
theorem jcw_217 : jcwP 217 := rfl
theorem jcw_218 : jcwP 218 := rfl
theorem jcw_219 : jcwP 219 := rfl
theorem jcw_220 : jcwP 220 := rfl
theorem jcw_221 : jcwP 221 := rfl
theorem jcw_222 : jcwP 222 := rfl
theorem jcw_223 : jcwP 223 := rfl
theorem jcw_224 : jcwP 224 := rfl
theorem jcw_225 : jcwP 225 := rfl
theorem jcw_226 : jcwP 226 := rfl
theorem jcw_227 : jcwP 227 := rfl
theorem jcw_228 : jcwP 228 := rfl
theorem jcw_229 : jcwP 229 := rfl
theorem jcw_230 : jcwP 230 := rfl
theorem jcw_231 : jcwP 231 := rfl
theorem jcw_232 : jcwP 232 := rfl
theorem jcw_233 : jcwP 233 := rfl
theorem jcw_234 : jcwP 234 := rfl
theorem jcw_235 : jcwP 235 := rfl
theorem jcw_236 : jcwP 236 := rfl
theorem jcw_237 : jcwP 237 := rfl
theorem jcw_238 : jcwP 238 := rfl
theorem jcw_239 : jcwP 239 := rfl
theorem jcw_240 : jcwP 240 := rfl
theorem jcw_241 : jcwP 241 := rfl
theorem jcw_242 : jcwP 242 := rfl
theorem jcw_243 : jcwP 243 := rfl
theorem jcw_244 : jcwP 244 := rfl
theorem jcw_245 : jcwP 245 := rfl
theorem jcw_246 : jcwP 246 := rfl
theorem jcw_247 : jcwP 247 := rfl
theorem jcw_248 : jcwP 248 := rfl
theorem jcw_249 : jcwP 249 := rfl
theorem jcw_250 : jcwP 250 := rfl
theorem jcw_251 : jcwP 251 := rfl
theorem jcw_252 : jcwP 252 := rfl
theorem jcw_253 : jcwP 253 := rfl
theorem jcw_254 : jcwP 254 := rfl
theorem jcw_255 : jcwP 255 := rfl
theorem jcw_256 : jcwP 256 := rfl
theorem jcw_257 : jcwP 257 := rfl
theorem jcw_258 : jcwP 258 := rfl
theorem jcw_259 : jcwP 259 := rfl
theorem jcw_260 : jcwP 260 := rfl
theorem jcw_261 : jcwP 261 := rfl
theorem jcw_262 : jcwP 262 := rfl
theorem jcw_263 : jcwP 263 := rfl
theorem jcw_264 : jcwP 264 := rfl
theorem jcw_265 : jcwP 265 := rfl
theorem jcw_266 : jcwP 266 := rfl
theorem jcw_267 : jcwP 267 := rfl
theorem jcw_268 : jcwP 268 := rfl
theorem jcw_269 : jcwP 269 := rfl
theorem jcw_270 : jcwP 270 := rfl
theorem jcw_271 : jcwP 271 := rfl
theorem jcw_272 : jcwP 272 := rfl
theorem jcw_273 : jcwP 273 := rfl
theorem jcw_274 : jcwP 274 := rfl
theorem jcw_275 : jcwP 275 := rfl
theorem jcw_276 : jcwP 276 := rfl
theorem jcw_278 : jcwP 278 := rfl
theorem jcw_279 : jcwP 279 := rfl
theorem jcw_280 : jcwP 280 := rfl
theorem jcw_281 : jcwP 281 := rfl
theorem jckJ2 {P : Nat → Prop} {x a b c : Nat} (h1 : ∀ n, a ≤ n → n < b → n ≠ x → P n) (h2 : ∀ n, b ≤ n → n < c → n ≠ x → P n) : ∀ n, a ≤ n → n < c → n ≠ x → P n := fun n l u z => (Nat.lt_or_ge n b).elim (fun h => h1 n l h z) (fun h => h2 n h u z)
theorem jcw_all : ∀ n, 0 ≤ n → n < 282 → n ≠ jlaw → jcwP n := (jckJ2 (jckJ2 (jckJ2 (jckJ2 (jckJ2 (jckJ2 (jckJ2 (jckJ2 (fun n h1 h2 _ => (Nat.le_antisymm h1 (Nat.le_of_lt_succ h2)) ▸ jcw_0) (fun n h1 h2 _ => (Nat.le_antisymm h1 (Nat.le_of_lt_succ h2)) ▸ jcw_1)) (jckJ2 (fun n h1 h2 _ => (Nat.le_antisymm h1 (Nat.le_of_lt_succ h2)) ▸ jcw_2) (fun n h1 h2 _ => (Nat.le_antisymm h1 (Nat.le_of_lt_succ h2)) ▸ jcw_3))) (jckJ2 (jckJ2 (fun n h1 h2 _ => (Nat.le_antisymm h1 (Nat.le_of_lt_succ h2)) ▸ jcw_4) (fun n h1 h2 _ => (Nat.le_antisymm h1 (Nat.le_of_lt_succ h2)) ▸ jcw_5)) (jckJ2 (fun n h1 h2 _ => (Nat.le_antisymm h1 (Nat.le_of_lt_succ h2)) ▸ jcw_6) (fun n h1 h2 _ => (Nat.le_antisymm h1 (Nat.le_of_lt_succ h2)) ▸ jcw_7)))) (jckJ2 (jckJ2 (jckJ2 (fun n h1 h2 _ => (Nat.le_antisymm h1 (Nat.le_of_lt_succ h2)) ▸ jcw_8) (fun n h1 h2 _ => (Nat.le_antisymm h1 (Nat.le_of_lt_succ h2)) ▸ jcw_9)) (jckJ2 (fun n h1 h2 _ => (Nat.le_antisymm h1 (Nat.le_of_lt_succ h2)) ▸ jcw_10) (fun n h1 h2 _ => (Nat.le_antisymm h1 (Nat.le_of_lt_succ h2)) ▸ jcw_11))) (jckJ2 (jckJ2 (fun n h1 h2 _ => (Nat.le_antisymm h1 (Nat.le_of_lt_succ h2)) ▸ jcw_12) (fun n h1 h2 _ => (Nat.le_antisymm h1 (Nat.le_of_lt_succ h2)) ▸ jcw_13)) (jckJ2 (fun n h1 h2 _ => (Nat.le_antisymm h1 (Nat.le_of_lt_succ h2)) ▸ jcw_14) (jckJ2 (fun n h1 h2 _ => (Nat.le_antisymm h1 (Nat.le_of_lt_succ h2)) ▸ jcw_15) (fun n h1 h2 _ => (Nat.le_antisymm h1 (Nat.le_of_lt_succ h2)) ▸ jcw_16)))))) (jckJ2 (jckJ2 (jckJ2 (jckJ2 (fun n h1 h2 _ => (Nat.le_antisymm h1 (Nat.le_of_lt_succ h2)) ▸ jcw_17) (fun n h1 h2 _ => (Nat.le_antisymm h1 (Nat.le_of_lt_succ h2)) ▸ jcw_18)) (jckJ2 (fun n h1 h2 _ => (Nat.le_antisymm h1 (Nat.le_of_lt_succ h2)) ▸ jcw_19) (fun n h1 h2 _ => (Nat.le_antisymm h1 (Nat.le_of_lt_succ h2)) ▸ jcw_20))) (jckJ2 (jckJ2 (fun n h1 h2 _ => (Nat.le_antisymm h1 (Nat.le_of_lt_succ h2)) ▸ jcw_21) (fun n h1 h2 _ => (Nat.le_antisymm h1 (Nat.le_of_lt_succ h2)) ▸ jcw_22)) (jckJ2 (fun n h1 h2 _ => (Nat.le_antisymm h1 (Nat.le_of_lt_succ h2)) ▸ jcw_23) (jckJ2 (fun n h1 h2 _ => (Nat.le_antisymm h1 (Nat.le_of_lt_succ h2)) ▸ jcw_24) (fun n h1 h2 _ => (Nat.le_antisymm h1 (Nat.le_of_lt_succ h2)) ▸ jcw_25))))) (jckJ2 (jckJ2 (jckJ2 (fun n h1 h2 _ => (Nat.le_antisymm h1 (Nat.le_of_lt_succ h2)) ▸ jcw_26) (fun n h1 h2 _ => (Nat.le_antisymm h1 (Nat.le_of_lt_succ h2)) ▸ jcw_27)) (jckJ2 (fun n h1 h2 _ => (Nat.le_antisymm h1 (Nat.le_of_lt_succ h2)) ▸ jcw_28) (fun n h1 h2 _ => (Nat.le_antisymm h1 (Nat.le_of_lt_succ h2)) ▸ jcw_29))) (jckJ2 (jckJ2 (fun n h1 h2 _ => (Nat.le_antisymm h1 (Nat.le_of_lt_succ h2)) ▸ jcw_30) (fun n h1 h2 _ => (Nat.le_antisymm h1 (Nat.le_of_lt_succ h2)) ▸ jcw_31)) (jckJ2 (fun n h1 h2 _ => (Nat.le_antisymm h1 (Nat.le_of_lt_succ h2)) ▸ jcw_32) (jckJ2 (fun n h1 h2 _ => (Nat.le_antisymm h1 (Nat.le_of_lt_succ h2)) ▸ jcw_33) (fun n h1 h2 _ => (Nat.le_antisymm h1 (Nat.le_of_lt_succ h2)) ▸ jcw_34))))))) (jckJ2 (jckJ2 (jckJ2 (jckJ2 (jckJ2 (fun n h1 h2 _ => (Nat.le_antisymm h1 (Nat.le_of_lt_succ h2)) ▸ jcw_35) (fun n h1 h2 _ => (Nat.le_antisymm h1 (Nat.le_of_lt_succ h2)) ▸ jcw_36)) (jckJ2 (fun n h1 h2 _ => (Nat.le_antisymm h1 (Nat.le_of_lt_succ h2)) ▸ jcw_37) (fun n h1 h2 _ => (Nat.le_antisymm h1 (Nat.le_of_lt_succ h2)) ▸ jcw_38))) (jckJ2 (jckJ2 (fun n h1 h2 _ => (Nat.le_antisymm h1 (Nat.le_of_lt_succ h2)) ▸ jcw_39) (fun n h1 h2 _ => (Nat.le_antisymm h1 (Nat.le_of_lt_succ h2)) ▸ jcw_40)) (jckJ2 (fun n h1 h2 _ => (Nat.le_antisymm h1 (Nat.le_of_lt_succ h2)) ▸ jcw_41) (fun n h1 h2 _ => (Nat.le_antisymm h1 (Nat.le_of_lt_succ h2)) ▸ jcw_42)))) (jckJ2 (jckJ2 (jckJ2 (fun n h1 h2 _ => (Nat.le_antisymm h1 (Nat.le_of_lt_succ h2)) ▸ jcw_43) (fun n h1 h2 _ => (Nat.le_antisymm h1 (Nat.le_of_lt_succ h2)) ▸ jcw_44)) (jckJ2 (fun n h1 h2 _ => (Nat.le_antisymm h1 (Nat.le_of_lt_succ h2)) ▸ jcw_45) (fun n h1 h2 _ => (Nat.le_antisymm h1 (Nat.le_of_lt_succ h2)) ▸ jcw_46))) (jckJ2 (jckJ2 (fun n h1 h2 _ => (Nat.le_antisymm h1 (Nat.le_of_lt_succ h2)) ▸ jcw_47) (fun n h1 h2 _ => (Nat.le_antisymm h1 (Nat.le_of_lt_succ h2)) ▸ jcw_48)) (jckJ2 (fun n h1 h2 _ => (Nat.le_antisymm h1 (Nat.le_of_lt_succ h2)) ▸ jcw_49) (jckJ2 (fun n h1 h2 _ => (Nat.le_antisymm h1 (Nat.le_of_lt_succ h2)) ▸ jcw_50) (fun n h1 h2 _ => (Nat.le_antisymm h1 (Nat.le_of_lt_succ h2)) ▸ jcw_51)))))) (jckJ2 (jckJ2 (jckJ2 (jckJ2 (fun n h1 h2 _ => (Nat.le_antisymm h1 (Nat.le_of_lt_succ h2)) ▸ jcw_52) (fun n h1 h2 _ => (Nat.le_antisymm h1 (Nat.le_of_lt_succ h2)) ▸ jcw_53)) (jckJ2 (fun n h1 h2 _ => (Nat.le_antisymm h1 (Nat.le_of_lt_succ h2)) ▸ jcw_54) (fun n h1 h2 _ => (Nat.le_antisymm h1 (Nat.le_of_lt_succ h2)) ▸ jcw_55))) (jckJ2 (jckJ2 (fun n h1 h2 _ => (Nat.le_antisymm h1 (Nat.le_of_lt_succ h2)) ▸ jcw_56) (fun n h1 h2 _ => (Nat.le_antisymm h1 (Nat.le_of_lt_succ h2)) ▸ jcw_57)) (jckJ2 (fun n h1 h2 _ => (Nat.le_antisymm h1 (Nat.le_of_lt_succ h2)) ▸ jcw_58) (jckJ2 (fun n h1 h2 _ => (Nat.le_antisymm h1 (Nat.le_of_lt_succ h2)) ▸ jcw_59) (fun n h1 h2 _ => (Nat.le_antisymm h1 (Nat.le_of_lt_succ h2)) ▸ jcw_60))))) (jckJ2 (jckJ2 (jckJ2 (fun n h1 h2 _ => (Nat.le_antisymm h1 (Nat.le_of_lt_succ h2)) ▸ jcw_61) (fun n h1 h2 _ => (Nat.le_antisymm h1 (Nat.le_of_lt_succ h2)) ▸ jcw_62)) (jckJ2 (fun n h1 h2 _ => (Nat.le_antisymm h1 (Nat.le_of_lt_succ h2)) ▸ jcw_63) (fun n h1 h2 _ => (Nat.le_antisymm h1 (Nat.le_of_lt_succ h2)) ▸ jcw_64))) (jckJ2 (jckJ2 (fun n h1 h2 _ => (Nat.le_antisymm h1 (Nat.le_of_lt_succ h2)) ▸ jcw_65) (fun n h1 h2 _ => (Nat.le_antisymm h1 (Nat.le_of_lt_succ h2)) ▸ jcw_66)) (jckJ2 (fun n h1 h2 _ => (Nat.le_antisymm h1 (Nat.le_of_lt_succ h2)) ▸ jcw_67) (jckJ2 (fun n h1 h2 _ => (Nat.le_antisymm h1 (Nat.le_of_lt_succ h2)) ▸ jcw_68) (fun n h1 h2 _ => (Nat.le_antisymm h1 (Nat.le_of_lt_succ h2)) ▸ jcw_69)))))))) (jckJ2 (jckJ2 (jckJ2 (jckJ2 (jckJ2 (jckJ2 (fun n h1 h2 _ => (Nat.le_antisymm h1 (Nat.le_of_lt_succ h2)) ▸ jcw_70) (fun n h1 h2 _ => (Nat.le_antisymm h1 (Nat.le_of_lt_succ h2)) ▸ jcw_71)) (jckJ2 (fun n h1 h2 _ => (Nat.le_antisymm h1 (Nat.le_of_lt_succ h2)) ▸ jcw_72) (fun n h1 h2 _ => (Nat.le_antisymm h1 (Nat.le_of_lt_succ h2)) ▸ jcw_73))) (jckJ2 (jckJ2 (fun n h1 h2 _ => (Nat.le_antisymm h1 (Nat.le_of_lt_succ h2)) ▸ jcw_74) (fun n h1 h2 _ => (Nat.le_antisymm h1 (Nat.le_of_lt_succ h2)) ▸ jcw_75)) (jckJ2 (fun n h1 h2 _ => (Nat.le_antisymm h1 (Nat.le_of_lt_succ h2)) ▸ jcw_76) (fun n h1 h2 _ => (Nat.le_antisymm h1 (Nat.le_of_lt_succ h2)) ▸ jcw_77)))) (jckJ2 (jckJ2 (jckJ2 (fun n h1 h2 _ => (Nat.le_antisymm h1 (Nat.le_of_lt_succ h2)) ▸ jcw_78) (fun n h1 h2 _ => (Nat.le_antisymm h1 (Nat.le_of_lt_succ h2)) ▸ jcw_79)) (jckJ2 (fun n h1 h2 _ => (Nat.le_antisymm h1 (Nat.le_of_lt_succ h2)) ▸ jcw_80) (fun n h1 h2 _ => (Nat.le_antisymm h1 (Nat.le_of_lt_succ h2)) ▸ jcw_81))) (jckJ2 (jckJ2 (fun n h1 h2 _ => (Nat.le_antisymm h1 (Nat.le_of_lt_succ h2)) ▸ jcw_82) (fun n h1 h2 _ => (Nat.le_antisymm h1 (Nat.le_of_lt_succ h2)) ▸ jcw_83)) (jckJ2 (fun n h1 h2 _ => (Nat.le_antisymm h1 (Nat.le_of_lt_succ h2)) ▸ jcw_84) (jckJ2 (fun n h1 h2 _ => (Nat.le_antisymm h1 (Nat.le_of_lt_succ h2)) ▸ jcw_85) (fun n h1 h2 _ => (Nat.le_antisymm h1 (Nat.le_of_lt_succ h2)) ▸ jcw_86)))))) (jckJ2 (jckJ2 (jckJ2 (jckJ2 (fun n h1 h2 _ => (Nat.le_antisymm h1 (Nat.le_of_lt_succ h2)) ▸ jcw_87) (fun n h1 h2 _ => (Nat.le_antisymm h1 (Nat.le_of_lt_succ h2)) ▸ jcw_88)) (jckJ2 (fun n h1 h2 _ => (Nat.le_antisymm h1 (Nat.le_of_lt_succ h2)) ▸ jcw_89) (fun n h1 h2 _ => (Nat.le_antisymm h1 (Nat.le_of_lt_succ h2)) ▸ jcw_90))) (jckJ2 (jckJ2 (fun n h1 h2 _ => (Nat.le_antisymm h1 (Nat.le_of_lt_succ h2)) ▸ jcw_91) (fun n h1 h2 _ => (Nat.le_antisymm h1 (Nat.le_of_lt_succ h2)) ▸ jcw_92)) (jckJ2 (fun n h1 h2 _ => (Nat.le_antisymm h1 (Nat.le_of_lt_succ h2)) ▸ jcw_93) (jckJ2 (fun n h1 h2 _ => (Nat.le_antisymm h1 (Nat.le_of_lt_succ h2)) ▸ jcw_94) (fun n h1 h2 _ => (Nat.le_antisymm h1 (Nat.le_of_lt_succ h2)) ▸ jcw_95))))) (jckJ2 (jckJ2 (jckJ2 (fun n h1 h2 _ => (Nat.le_antisymm h1 (Nat.le_of_lt_succ h2)) ▸ jcw_96) (fun n h1 h2 _ => (Nat.le_antisymm h1 (Nat.le_of_lt_succ h2)) ▸ jcw_97)) (jckJ2 (fun n h1 h2 _ => (Nat.le_antisymm h1 (Nat.le_of_lt_succ h2)) ▸ jcw_98) (fun n h1 h2 _ => (Nat.le_antisymm h1 (Nat.le_of_lt_succ h2)) ▸ jcw_99))) (jckJ2 (jckJ2 (fun n h1 h2 _ => (Nat.le_antisymm h1 (Nat.le_of_lt_succ h2)) ▸ jcw_100) (fun n h1 h2 _ => (Nat.le_antisymm h1 (Nat.le_of_lt_succ h2)) ▸ jcw_101)) (jckJ2 (fun n h1 h2 _ => (Nat.le_antisymm h1 (Nat.le_of_lt_succ h2)) ▸ jcw_102) (jckJ2 (fun n h1 h2 _ => (Nat.le_antisymm h1 (Nat.le_of_lt_succ h2)) ▸ jcw_103) (fun n h1 h2 _ => (Nat.le_antisymm h1 (Nat.le_of_lt_succ h2)) ▸ jcw_104))))))) (jckJ2 (jckJ2 (jckJ2 (jckJ2 (jckJ2 (fun n h1 h2 _ => (Nat.le_antisymm h1 (Nat.le_of_lt_succ h2)) ▸ jcw_105) (fun n h1 h2 _ => (Nat.le_antisymm h1 (Nat.le_of_lt_succ h2)) ▸ jcw_106)) (jckJ2 (fun n h1 h2 _ => (Nat.le_antisymm h1 (Nat.le_of_lt_succ h2)) ▸ jcw_107) (fun n h1 h2 _ => (Nat.le_antisymm h1 (Nat.le_of_lt_succ h2)) ▸ jcw_108))) (jckJ2 (jckJ2 (fun n h1 h2 _ => (Nat.le_antisymm h1 (Nat.le_of_lt_succ h2)) ▸ jcw_109) (fun n h1 h2 _ => (Nat.le_antisymm h1 (Nat.le_of_lt_succ h2)) ▸ jcw_110)) (jckJ2 (fun n h1 h2 _ => (Nat.le_antisymm h1 (Nat.le_of_lt_succ h2)) ▸ jcw_111) (jckJ2 (fun n h1 h2 _ => (Nat.le_antisymm h1 (Nat.le_of_lt_succ h2)) ▸ jcw_112) (fun n h1 h2 _ => (Nat.le_antisymm h1 (Nat.le_of_lt_succ h2)) ▸ jcw_113))))) (jckJ2 (jckJ2 (jckJ2 (fun n h1 h2 _ => (Nat.le_antisymm h1 (Nat.le_of_lt_succ h2)) ▸ jcw_114) (fun n h1 h2 _ => (Nat.le_antisymm h1 (Nat.le_of_lt_succ h2)) ▸ jcw_115)) (jckJ2 (fun n h1 h2 _ => (Nat.le_antisymm h1 (Nat.le_of_lt_succ h2)) ▸ jcw_116) (fun n h1 h2 _ => (Nat.le_antisymm h1 (Nat.le_of_lt_succ h2)) ▸ jcw_117))) (jckJ2 (jckJ2 (fun n h1 h2 _ => (Nat.le_antisymm h1 (Nat.le_of_lt_succ h2)) ▸ jcw_118) (fun n h1 h2 _ => (Nat.le_antisymm h1 (Nat.le_of_lt_succ h2)) ▸ jcw_119)) (jckJ2 (fun n h1 h2 _ => (Nat.le_antisymm h1 (Nat.le_of_lt_succ h2)) ▸ jcw_120) (jckJ2 (fun n h1 h2 _ => (Nat.le_antisymm h1 (Nat.le_of_lt_succ h2)) ▸ jcw_121) (fun n h1 h2 _ => (Nat.le_antisymm h1 (Nat.le_of_lt_succ h2)) ▸ jcw_122)))))) (jckJ2 (jckJ2 (jckJ2 (jckJ2 (fun n h1 h2 _ => (Nat.le_antisymm h1 (Nat.le_of_lt_succ h2)) ▸ jcw_123) (fun n h1 h2 _ => (Nat.le_antisymm h1 (Nat.le_of_lt_succ h2)) ▸ jcw_124)) (jckJ2 (fun n h1 h2 _ => (Nat.le_antisymm h1 (Nat.le_of_lt_succ h2)) ▸ jcw_125) (fun n h1 h2 _ => (Nat.le_antisymm h1 (Nat.le_of_lt_succ h2)) ▸ jcw_126))) (jckJ2 (jckJ2 (fun n h1 h2 _ => (Nat.le_antisymm h1 (Nat.le_of_lt_succ h2)) ▸ jcw_127) (fun n h1 h2 _ => (Nat.le_antisymm h1 (Nat.le_of_lt_succ h2)) ▸ jcw_128)) (jckJ2 (fun n h1 h2 _ => (Nat.le_antisymm h1 (Nat.le_of_lt_succ h2)) ▸ jcw_129) (jckJ2 (fun n h1 h2 _ => (Nat.le_antisymm h1 (Nat.le_of_lt_succ h2)) ▸ jcw_130) (fun n h1 h2 _ => (Nat.le_antisymm h1 (Nat.le_of_lt_succ h2)) ▸ jcw_131))))) (jckJ2 (jckJ2 (jckJ2 (fun n h1 h2 _ => (Nat.le_antisymm h1 (Nat.le_of_lt_succ h2)) ▸ jcw_132) (fun n h1 h2 _ => (Nat.le_antisymm h1 (Nat.le_of_lt_succ h2)) ▸ jcw_133)) (jckJ2 (fun n h1 h2 _ => (Nat.le_antisymm h1 (Nat.le_of_lt_succ h2)) ▸ jcw_134) (fun n h1 h2 _ => (Nat.le_antisymm h1 (Nat.le_of_lt_succ h2)) ▸ jcw_135))) (jckJ2 (jckJ2 (fun n h1 h2 _ => (Nat.le_antisymm h1 (Nat.le_of_lt_succ h2)) ▸ jcw_136) (fun n h1 h2 _ => (Nat.le_antisymm h1 (Nat.le_of_lt_succ h2)) ▸ jcw_137)) (jckJ2 (fun n h1 h2 _ => (Nat.le_antisymm h1 (Nat.le_of_lt_succ h2)) ▸ jcw_138) (jckJ2 (fun n h1 h2 _ => (Nat.le_antisymm h1 (Nat.le_of_lt_succ h2)) ▸ jcw_139) (fun n h1 h2 _ => (Nat.le_antisymm h1 (Nat.le_of_lt_succ h2)) ▸ jcw_140))))))))) (jckJ2 (jckJ2 (jckJ2 (jckJ2 (jckJ2 (jckJ2 (jckJ2 (fun n h1 h2 _ => (Nat.le_antisymm h1 (Nat.le_of_lt_succ h2)) ▸ jcw_141) (fun n h1 h2 _ => (Nat.le_antisymm h1 (Nat.le_of_lt_succ h2)) ▸ jcw_142)) (jckJ2 (fun n h1 h2 _ => (Nat.le_antisymm h1 (Nat.le_of_lt_succ h2)) ▸ jcw_143) (fun n h1 h2 _ => (Nat.le_antisymm h1 (Nat.le_of_lt_succ h2)) ▸ jcw_144))) (jckJ2 (jckJ2 (fun n h1 h2 _ => (Nat.le_antisymm h1 (Nat.le_of_lt_succ h2)) ▸ jcw_145) (fun n h1 h2 _ => (Nat.le_antisymm h1 (Nat.le_of_lt_succ h2)) ▸ jcw_146)) (jckJ2 (fun n h1 h2 _ => (Nat.le_antisymm h1 (Nat.le_of_lt_succ h2)) ▸ jcw_147) (fun n h1 h2 _ => (Nat.le_antisymm h1 (Nat.le_of_lt_succ h2)) ▸ jcw_148)))) (jckJ2 (jckJ2 (jckJ2 (fun n h1 h2 _ => (Nat.le_antisymm h1 (Nat.le_of_lt_succ h2)) ▸ jcw_149) (fun n h1 h2 _ => (Nat.le_antisymm h1 (Nat.le_of_lt_succ h2)) ▸ jcw_150)) (jckJ2 (fun n h1 h2 _ => (Nat.le_antisymm h1 (Nat.le_of_lt_succ h2)) ▸ jcw_151) (fun n h1 h2 _ => (Nat.le_antisymm h1 (Nat.le_of_lt_succ h2)) ▸ jcw_152))) (jckJ2 (jckJ2 (fun n h1 h2 _ => (Nat.le_antisymm h1 (Nat.le_of_lt_succ h2)) ▸ jcw_153) (fun n h1 h2 _ => (Nat.le_antisymm h1 (Nat.le_of_lt_succ h2)) ▸ jcw_154)) (jckJ2 (fun n h1 h2 _ => (Nat.le_antisymm h1 (Nat.le_of_lt_succ h2)) ▸ jcw_155) (jckJ2 (fun n h1 h2 _ => (Nat.le_antisymm h1 (Nat.le_of_lt_succ h2)) ▸ jcw_156) (fun n h1 h2 _ => (Nat.le_antisymm h1 (Nat.le_of_lt_succ h2)) ▸ jcw_157)))))) (jckJ2 (jckJ2 (jckJ2 (jckJ2 (fun n h1 h2 _ => (Nat.le_antisymm h1 (Nat.le_of_lt_succ h2)) ▸ jcw_158) (fun n h1 h2 _ => (Nat.le_antisymm h1 (Nat.le_of_lt_succ h2)) ▸ jcw_159)) (jckJ2 (fun n h1 h2 _ => (Nat.le_antisymm h1 (Nat.le_of_lt_succ h2)) ▸ jcw_160) (fun n h1 h2 _ => (Nat.le_antisymm h1 (Nat.le_of_lt_succ h2)) ▸ jcw_161))) (jckJ2 (jckJ2 (fun n h1 h2 _ => (Nat.le_antisymm h1 (Nat.le_of_lt_succ h2)) ▸ jcw_162) (fun n h1 h2 _ => (Nat.le_antisymm h1 (Nat.le_of_lt_succ h2)) ▸ jcw_163)) (jckJ2 (fun n h1 h2 _ => (Nat.le_antisymm h1 (Nat.le_of_lt_succ h2)) ▸ jcw_164) (jckJ2 (fun n h1 h2 _ => (Nat.le_antisymm h1 (Nat.le_of_lt_succ h2)) ▸ jcw_165) (fun n h1 h2 _ => (Nat.le_antisymm h1 (Nat.le_of_lt_succ h2)) ▸ jcw_166))))) (jckJ2 (jckJ2 (jckJ2 (fun n h1 h2 _ => (Nat.le_antisymm h1 (Nat.le_of_lt_succ h2)) ▸ jcw_167) (fun n h1 h2 _ => (Nat.le_antisymm h1 (Nat.le_of_lt_succ h2)) ▸ jcw_168)) (jckJ2 (fun n h1 h2 _ => (Nat.le_antisymm h1 (Nat.le_of_lt_succ h2)) ▸ jcw_169) (fun n h1 h2 _ => (Nat.le_antisymm h1 (Nat.le_of_lt_succ h2)) ▸ jcw_170))) (jckJ2 (jckJ2 (fun n h1 h2 _ => (Nat.le_antisymm h1 (Nat.le_of_lt_succ h2)) ▸ jcw_171) (fun n h1 h2 _ => (Nat.le_antisymm h1 (Nat.le_of_lt_succ h2)) ▸ jcw_172)) (jckJ2 (fun n h1 h2 _ => (Nat.le_antisymm h1 (Nat.le_of_lt_succ h2)) ▸ jcw_173) (jckJ2 (fun n h1 h2 _ => (Nat.le_antisymm h1 (Nat.le_of_lt_succ h2)) ▸ jcw_174) (fun n h1 h2 _ => (Nat.le_antisymm h1 (Nat.le_of_lt_succ h2)) ▸ jcw_175))))))) (jckJ2 (jckJ2 (jckJ2 (jckJ2 (jckJ2 (fun n h1 h2 _ => (Nat.le_antisymm h1 (Nat.le_of_lt_succ h2)) ▸ jcw_176) (fun n h1 h2 _ => (Nat.le_antisymm h1 (Nat.le_of_lt_succ h2)) ▸ jcw_177)) (jckJ2 (fun n h1 h2 _ => (Nat.le_antisymm h1 (Nat.le_of_lt_succ h2)) ▸ jcw_178) (fun n h1 h2 _ => (Nat.le_antisymm h1 (Nat.le_of_lt_succ h2)) ▸ jcw_179))) (jckJ2 (jckJ2 (fun n h1 h2 _ => (Nat.le_antisymm h1 (Nat.le_of_lt_succ h2)) ▸ jcw_180) (fun n h1 h2 _ => (Nat.le_antisymm h1 (Nat.le_of_lt_succ h2)) ▸ jcw_181)) (jckJ2 (fun n h1 h2 _ => (Nat.le_antisymm h1 (Nat.le_of_lt_succ h2)) ▸ jcw_182) (fun n h1 h2 _ => (Nat.le_antisymm h1 (Nat.le_of_lt_succ h2)) ▸ jcw_183)))) (jckJ2 (jckJ2 (jckJ2 (fun n h1 h2 _ => (Nat.le_antisymm h1 (Nat.le_of_lt_succ h2)) ▸ jcw_184) (fun n h1 h2 _ => (Nat.le_antisymm h1 (Nat.le_of_lt_succ h2)) ▸ jcw_185)) (jckJ2 (fun n h1 h2 _ => (Nat.le_antisymm h1 (Nat.le_of_lt_succ h2)) ▸ jcw_186) (fun n h1 h2 _ => (Nat.le_antisymm h1 (Nat.le_of_lt_succ h2)) ▸ jcw_187))) (jckJ2 (jckJ2 (fun n h1 h2 _ => (Nat.le_antisymm h1 (Nat.le_of_lt_succ h2)) ▸ jcw_188) (fun n h1 h2 _ => (Nat.le_antisymm h1 (Nat.le_of_lt_succ h2)) ▸ jcw_189)) (jckJ2 (fun n h1 h2 _ => (Nat.le_antisymm h1 (Nat.le_of_lt_succ h2)) ▸ jcw_190) (jckJ2 (fun n h1 h2 _ => (Nat.le_antisymm h1 (Nat.le_of_lt_succ h2)) ▸ jcw_191) (fun n h1 h2 _ => (Nat.le_antisymm h1 (Nat.le_of_lt_succ h2)) ▸ jcw_192)))))) (jckJ2 (jckJ2 (jckJ2 (jckJ2 (fun n h1 h2 _ => (Nat.le_antisymm h1 (Nat.le_of_lt_succ h2)) ▸ jcw_193) (fun n h1 h2 _ => (Nat.le_antisymm h1 (Nat.le_of_lt_succ h2)) ▸ jcw_194)) (jckJ2 (fun n h1 h2 _ => (Nat.le_antisymm h1 (Nat.le_of_lt_succ h2)) ▸ jcw_195) (fun n h1 h2 _ => (Nat.le_antisymm h1 (Nat.le_of_lt_succ h2)) ▸ jcw_196))) (jckJ2 (jckJ2 (fun n h1 h2 _ => (Nat.le_antisymm h1 (Nat.le_of_lt_succ h2)) ▸ jcw_197) (fun n h1 h2 _ => (Nat.le_antisymm h1 (Nat.le_of_lt_succ h2)) ▸ jcw_198)) (jckJ2 (fun n h1 h2 _ => (Nat.le_antisymm h1 (Nat.le_of_lt_succ h2)) ▸ jcw_199) (jckJ2 (fun n h1 h2 _ => (Nat.le_antisymm h1 (Nat.le_of_lt_succ h2)) ▸ jcw_200) (fun n h1 h2 _ => (Nat.le_antisymm h1 (Nat.le_of_lt_succ h2)) ▸ jcw_201))))) (jckJ2 (jckJ2 (jckJ2 (fun n h1 h2 _ => (Nat.le_antisymm h1 (Nat.le_of_lt_succ h2)) ▸ jcw_202) (fun n h1 h2 _ => (Nat.le_antisymm h1 (Nat.le_of_lt_succ h2)) ▸ jcw_203)) (jckJ2 (fun n h1 h2 _ => (Nat.le_antisymm h1 (Nat.le_of_lt_succ h2)) ▸ jcw_204) (fun n h1 h2 _ => (Nat.le_antisymm h1 (Nat.le_of_lt_succ h2)) ▸ jcw_205))) (jckJ2 (jckJ2 (fun n h1 h2 _ => (Nat.le_antisymm h1 (Nat.le_of_lt_succ h2)) ▸ jcw_206) (fun n h1 h2 _ => (Nat.le_antisymm h1 (Nat.le_of_lt_succ h2)) ▸ jcw_207)) (jckJ2 (fun n h1 h2 _ => (Nat.le_antisymm h1 (Nat.le_of_lt_succ h2)) ▸ jcw_208) (jckJ2 (fun n h1 h2 _ => (Nat.le_antisymm h1 (Nat.le_of_lt_succ h2)) ▸ jcw_209) (fun n h1 h2 _ => (Nat.le_antisymm h1 (Nat.le_of_lt_succ h2)) ▸ jcw_210)))))))) (jckJ2 (jckJ2 (jckJ2 (jckJ2 (jckJ2 (jckJ2 (fun n h1 h2 _ => (Nat.le_antisymm h1 (Nat.le_of_lt_succ h2)) ▸ jcw_211) (fun n h1 h2 _ => (Nat.le_antisymm h1 (Nat.le_of_lt_succ h2)) ▸ jcw_212)) (jckJ2 (fun n h1 h2 _ => (Nat.le_antisymm h1 (Nat.le_of_lt_succ h2)) ▸ jcw_213) (fun n h1 h2 _ => (Nat.le_antisymm h1 (Nat.le_of_lt_succ h2)) ▸ jcw_214))) (jckJ2 (jckJ2 (fun n h1 h2 _ => (Nat.le_antisymm h1 (Nat.le_of_lt_succ h2)) ▸ jcw_215) (fun n h1 h2 _ => (Nat.le_antisymm h1 (Nat.le_of_lt_succ h2)) ▸ jcw_216)) (jckJ2 (fun n h1 h2 _ => (Nat.le_antisymm h1 (Nat.le_of_lt_succ h2)) ▸ jcw_217) (fun n h1 h2 _ => (Nat.le_antisymm h1 (Nat.le_of_lt_succ h2)) ▸ jcw_218)))) (jckJ2 (jckJ2 (jckJ2 (fun n h1 h2 _ => (Nat.le_antisymm h1 (Nat.le_of_lt_succ h2)) ▸ jcw_219) (fun n h1 h2 _ => (Nat.le_antisymm h1 (Nat.le_of_lt_succ h2)) ▸ jcw_220)) (jckJ2 (fun n h1 h2 _ => (Nat.le_antisymm h1 (Nat.le_of_lt_succ h2)) ▸ jcw_221) (fun n h1 h2 _ => (Nat.le_antisymm h1 (Nat.le_of_lt_succ h2)) ▸ jcw_222))) (jckJ2 (jckJ2 (fun n h1 h2 _ => (Nat.le_antisymm h1 (Nat.le_of_lt_succ h2)) ▸ jcw_223) (fun n h1 h2 _ => (Nat.le_antisymm h1 (Nat.le_of_lt_succ h2)) ▸ jcw_224)) (jckJ2 (fun n h1 h2 _ => (Nat.le_antisymm h1 (Nat.le_of_lt_succ h2)) ▸ jcw_225) (jckJ2 (fun n h1 h2 _ => (Nat.le_antisymm h1 (Nat.le_of_lt_succ h2)) ▸ jcw_226) (fun n h1 h2 _ => (Nat.le_antisymm h1 (Nat.le_of_lt_succ h2)) ▸ jcw_227)))))) (jckJ2 (jckJ2 (jckJ2 (jckJ2 (fun n h1 h2 _ => (Nat.le_antisymm h1 (Nat.le_of_lt_succ h2)) ▸ jcw_228) (fun n h1 h2 _ => (Nat.le_antisymm h1 (Nat.le_of_lt_succ h2)) ▸ jcw_229)) (jckJ2 (fun n h1 h2 _ => (Nat.le_antisymm h1 (Nat.le_of_lt_succ h2)) ▸ jcw_230) (fun n h1 h2 _ => (Nat.le_antisymm h1 (Nat.le_of_lt_succ h2)) ▸ jcw_231))) (jckJ2 (jckJ2 (fun n h1 h2 _ => (Nat.le_antisymm h1 (Nat.le_of_lt_succ h2)) ▸ jcw_232) (fun n h1 h2 _ => (Nat.le_antisymm h1 (Nat.le_of_lt_succ h2)) ▸ jcw_233)) (jckJ2 (fun n h1 h2 _ => (Nat.le_antisymm h1 (Nat.le_of_lt_succ h2)) ▸ jcw_234) (jckJ2 (fun n h1 h2 _ => (Nat.le_antisymm h1 (Nat.le_of_lt_succ h2)) ▸ jcw_235) (fun n h1 h2 _ => (Nat.le_antisymm h1 (Nat.le_of_lt_succ h2)) ▸ jcw_236))))) (jckJ2 (jckJ2 (jckJ2 (fun n h1 h2 _ => (Nat.le_antisymm h1 (Nat.le_of_lt_succ h2)) ▸ jcw_237) (fun n h1 h2 _ => (Nat.le_antisymm h1 (Nat.le_of_lt_succ h2)) ▸ jcw_238)) (jckJ2 (fun n h1 h2 _ => (Nat.le_antisymm h1 (Nat.le_of_lt_succ h2)) ▸ jcw_239) (fun n h1 h2 _ => (Nat.le_antisymm h1 (Nat.le_of_lt_succ h2)) ▸ jcw_240))) (jckJ2 (jckJ2 (fun n h1 h2 _ => (Nat.le_antisymm h1 (Nat.le_of_lt_succ h2)) ▸ jcw_241) (fun n h1 h2 _ => (Nat.le_antisymm h1 (Nat.le_of_lt_succ h2)) ▸ jcw_242)) (jckJ2 (fun n h1 h2 _ => (Nat.le_antisymm h1 (Nat.le_of_lt_succ h2)) ▸ jcw_243) (jckJ2 (fun n h1 h2 _ => (Nat.le_antisymm h1 (Nat.le_of_lt_succ h2)) ▸ jcw_244) (fun n h1 h2 _ => (Nat.le_antisymm h1 (Nat.le_of_lt_succ h2)) ▸ jcw_245))))))) (jckJ2 (jckJ2 (jckJ2 (jckJ2 (jckJ2 (fun n h1 h2 _ => (Nat.le_antisymm h1 (Nat.le_of_lt_succ h2)) ▸ jcw_246) (fun n h1 h2 _ => (Nat.le_antisymm h1 (Nat.le_of_lt_succ h2)) ▸ jcw_247)) (jckJ2 (fun n h1 h2 _ => (Nat.le_antisymm h1 (Nat.le_of_lt_succ h2)) ▸ jcw_248) (fun n h1 h2 _ => (Nat.le_antisymm h1 (Nat.le_of_lt_succ h2)) ▸ jcw_249))) (jckJ2 (jckJ2 (fun n h1 h2 _ => (Nat.le_antisymm h1 (Nat.le_of_lt_succ h2)) ▸ jcw_250) (fun n h1 h2 _ => (Nat.le_antisymm h1 (Nat.le_of_lt_succ h2)) ▸ jcw_251)) (jckJ2 (fun n h1 h2 _ => (Nat.le_antisymm h1 (Nat.le_of_lt_succ h2)) ▸ jcw_252) (jckJ2 (fun n h1 h2 _ => (Nat.le_antisymm h1 (Nat.le_of_lt_succ h2)) ▸ jcw_253) (fun n h1 h2 _ => (Nat.le_antisymm h1 (Nat.le_of_lt_succ h2)) ▸ jcw_254))))) (jckJ2 (jckJ2 (jckJ2 (fun n h1 h2 _ => (Nat.le_antisymm h1 (Nat.le_of_lt_succ h2)) ▸ jcw_255) (fun n h1 h2 _ => (Nat.le_antisymm h1 (Nat.le_of_lt_succ h2)) ▸ jcw_256)) (jckJ2 (fun n h1 h2 _ => (Nat.le_antisymm h1 (Nat.le_of_lt_succ h2)) ▸ jcw_257) (fun n h1 h2 _ => (Nat.le_antisymm h1 (Nat.le_of_lt_succ h2)) ▸ jcw_258))) (jckJ2 (jckJ2 (fun n h1 h2 _ => (Nat.le_antisymm h1 (Nat.le_of_lt_succ h2)) ▸ jcw_259) (fun n h1 h2 _ => (Nat.le_antisymm h1 (Nat.le_of_lt_succ h2)) ▸ jcw_260)) (jckJ2 (fun n h1 h2 _ => (Nat.le_antisymm h1 (Nat.le_of_lt_succ h2)) ▸ jcw_261) (jckJ2 (fun n h1 h2 _ => (Nat.le_antisymm h1 (Nat.le_of_lt_succ h2)) ▸ jcw_262) (fun n h1 h2 _ => (Nat.le_antisymm h1 (Nat.le_of_lt_succ h2)) ▸ jcw_263)))))) (jckJ2 (jckJ2 (jckJ2 (jckJ2 (fun n h1 h2 _ => (Nat.le_antisymm h1 (Nat.le_of_lt_succ h2)) ▸ jcw_264) (fun n h1 h2 _ => (Nat.le_antisymm h1 (Nat.le_of_lt_succ h2)) ▸ jcw_265)) (jckJ2 (fun n h1 h2 _ => (Nat.le_antisymm h1 (Nat.le_of_lt_succ h2)) ▸ jcw_266) (fun n h1 h2 _ => (Nat.le_antisymm h1 (Nat.le_of_lt_succ h2)) ▸ jcw_267))) (jckJ2 (jckJ2 (fun n h1 h2 _ => (Nat.le_antisymm h1 (Nat.le_of_lt_succ h2)) ▸ jcw_268) (fun n h1 h2 _ => (Nat.le_antisymm h1 (Nat.le_of_lt_succ h2)) ▸ jcw_269)) (jckJ2 (fun n h1 h2 _ => (Nat.le_antisymm h1 (Nat.le_of_lt_succ h2)) ▸ jcw_270) (jckJ2 (fun n h1 h2 _ => (Nat.le_antisymm h1 (Nat.le_of_lt_succ h2)) ▸ jcw_271) (fun n h1 h2 _ => (Nat.le_antisymm h1 (Nat.le_of_lt_succ h2)) ▸ jcw_272))))) (jckJ2 (jckJ2 (jckJ2 (fun n h1 h2 _ => (Nat.le_antisymm h1 (Nat.le_of_lt_succ h2)) ▸ jcw_273) (fun n h1 h2 _ => (Nat.le_antisymm h1 (Nat.le_of_lt_succ h2)) ▸ jcw_274)) (jckJ2 (fun n h1 h2 _ => (Nat.le_antisymm h1 (Nat.le_of_lt_succ h2)) ▸ jcw_275) (fun n h1 h2 _ => (Nat.le_antisymm h1 (Nat.le_of_lt_succ h2)) ▸ jcw_276))) (jckJ2 (jckJ2 (fun n h1 h2 h3 => absurd (Nat.le_antisymm (Nat.le_of_lt_succ h2) h1) h3) (fun n h1 h2 _ => (Nat.le_antisymm h1 (Nat.le_of_lt_succ h2)) ▸ jcw_278)) (jckJ2 (fun n h1 h2 _ => (Nat.le_antisymm h1 (Nat.le_of_lt_succ h2)) ▸ jcw_279) (jckJ2 (fun n h1 h2 _ => (Nat.le_antisymm h1 (Nat.le_of_lt_succ h2)) ▸ jcw_280) (fun n h1 h2 _ => (Nat.le_antisymm h1 (Nat.le_of_lt_succ h2)) ▸ jcw_281))))))))))

/-! ===== numbers: the ints of both programs as integers ===== -/
def ii (z : Int) : Int32 := Int32.ofInt z
theorem ii_add (a b : Int) : ii a + ii b = ii (a + b) := (Int32.ofInt_add a b).symm
theorem ii_sub (a b : Int) : ii a - ii b = ii (a - b) := (Int32.ofInt_sub a b).symm
theorem ii_mul (a b : Int) : ii a * ii b = ii (a * b) := (Int32.ofInt_mul a b).symm
theorem ii_neg (a : Int) : -ii a = ii (-a) := (Int32.ofInt_neg a).symm
theorem ii_of (x : Int32) : ii x.toInt = x := Int32.ofInt_toInt x
theorem ii_toInt {a : Int} (h1 : -2147483648 ≤ a) (h2 : a ≤ 2147483647) : (ii a).toInt = a := Int32.toInt_ofInt_of_le (by omega) (by omega)
theorem ii_nat {a : Int} (h1 : -2147483648 ≤ a) (h2 : a ≤ 2147483647) : (ii a).toNatClampNeg = a.toNat := Int32.toNatClampNeg_ofInt_of_le (by omega) (by omega)
theorem ii_lt {a b : Int} (h1 : -2147483648 ≤ a) (h2 : a ≤ 2147483647) (h3 : -2147483648 ≤ b) (h4 : b ≤ 2147483647) : (ii a < ii b) = (a < b) := by rw [Int32.lt_iff_toInt_lt, ii_toInt h1 h2, ii_toInt h3 h4]
theorem ii_le {a b : Int} (h1 : -2147483648 ≤ a) (h2 : a ≤ 2147483647) (h3 : -2147483648 ≤ b) (h4 : b ≤ 2147483647) : (ii a ≤ ii b) = (a ≤ b) := by rw [Int32.le_iff_toInt_le, ii_toInt h1 h2, ii_toInt h3 h4]
theorem ii_eq {a b : Int} (h1 : -2147483648 ≤ a) (h2 : a ≤ 2147483647) (h3 : -2147483648 ≤ b) (h4 : b ≤ 2147483647) : (ii a = ii b) = (a = b) := by rw [← Int32.toInt_inj, ii_toInt h1 h2, ii_toInt h3 h4]
theorem ii_div {a b : Int} (h1 : 0 ≤ a) (h2 : a ≤ 2147483647) (h3 : 0 < b) (h4 : b ≤ 2147483647) : ii a / ii b = ii (a / b) := by
  have h := Int32.ofInt_tdiv (a := a) (b := b) (by show (-2147483648 : Int) ≤ a; omega) (by show a ≤ (2147483647 : Int); omega) (by show (-2147483648 : Int) ≤ b; omega) (by show b ≤ (2147483647 : Int); omega)
  rw [Int.tdiv_eq_ediv_of_nonneg h1] at h
  exact h.symm
theorem ii_mod {a b : Int} (h1 : 0 ≤ a) (h2 : a ≤ 2147483647) (h3 : 0 < b) (h4 : b ≤ 2147483647) : ii a - ii a / ii b * ii b = ii (a % b) := by
  rw [ii_div h1 h2 h3 h4, ii_mul, ii_sub, Int.emod_def, Int.mul_comm]
theorem ii_abs {a : Int} (h1 : -2147483648 ≤ a) (h2 : a ≤ 2147483647) : iabs (ii a) = ii (if 0 ≤ a then a else -a) := by
  unfold iabs
  simp (disch := omega) only [show (0 : Int32) = ii 0 from rfl, ii_le, ii_sub]
  by_cases h : 0 ≤ a
  · rw [if_pos h, if_pos h]
  · rw [if_neg h, if_neg h]; congr 1; omega
theorem ii_max {a b : Int} (h1 : -2147483648 ≤ a) (h2 : a ≤ 2147483647) (h3 : -2147483648 ≤ b) (h4 : b ≤ 2147483647) : imax (ii a) (ii b) = ii (if a < b then b else a) := by
  unfold imax
  simp (disch := omega) only [ii_lt]
  by_cases h : a < b
  · rw [if_pos h, if_pos h]
  · rw [if_neg h, if_neg h]
theorem ii_ofNat (n : Nat) : Int32.ofNat n = ii n := Int32.ofInt_eq_ofNat.symm
theorem ii_if (c : Prop) [Decidable c] (a b : Int) : (if c then ii a else ii b) = ii (if c then a else b) := by
  by_cases h : c
  · rw [if_pos h, if_pos h]
  · rw [if_neg h, if_neg h]
theorem il_0 : (0 : Int32) = ii 0 := rfl
theorem il_1 : (1 : Int32) = ii 1 := rfl
theorem il_2 : (2 : Int32) = ii 2 := rfl
theorem il_3 : (3 : Int32) = ii 3 := rfl
theorem il_4 : (4 : Int32) = ii 4 := rfl
theorem il_5 : (5 : Int32) = ii 5 := rfl
theorem il_6 : (6 : Int32) = ii 6 := rfl
theorem il_7 : (7 : Int32) = ii 7 := rfl
theorem il_8 : (8 : Int32) = ii 8 := rfl
theorem il_9 : (9 : Int32) = ii 9 := rfl
theorem il_10 : (10 : Int32) = ii 10 := rfl
theorem il_11 : (11 : Int32) = ii 11 := rfl
theorem il_12 : (12 : Int32) = ii 12 := rfl
theorem il_13 : (13 : Int32) = ii 13 := rfl
theorem il_14 : (14 : Int32) = ii 14 := rfl
theorem il_15 : (15 : Int32) = ii 15 := rfl
theorem il_16 : (16 : Int32) = ii 16 := rfl
theorem il_17 : (17 : Int32) = ii 17 := rfl
theorem il_18 : (18 : Int32) = ii 18 := rfl
theorem il_19 : (19 : Int32) = ii 19 := rfl
theorem il_20 : (20 : Int32) = ii 20 := rfl
theorem il_21 : (21 : Int32) = ii 21 := rfl
theorem il_22 : (22 : Int32) = ii 22 := rfl
theorem il_23 : (23 : Int32) = ii 23 := rfl
theorem il_24 : (24 : Int32) = ii 24 := rfl
theorem il_25 : (25 : Int32) = ii 25 := rfl
theorem il_26 : (26 : Int32) = ii 26 := rfl
theorem il_27 : (27 : Int32) = ii 27 := rfl
theorem il_28 : (28 : Int32) = ii 28 := rfl
theorem il_29 : (29 : Int32) = ii 29 := rfl
theorem il_30 : (30 : Int32) = ii 30 := rfl
theorem il_31 : (31 : Int32) = ii 31 := rfl
theorem il_32 : (32 : Int32) = ii 32 := rfl
theorem il_33 : (33 : Int32) = ii 33 := rfl
theorem il_34 : (34 : Int32) = ii 34 := rfl
theorem il_35 : (35 : Int32) = ii 35 := rfl
theorem il_36 : (36 : Int32) = ii 36 := rfl
theorem il_37 : (37 : Int32) = ii 37 := rfl
theorem il_38 : (38 : Int32) = ii 38 := rfl
theorem il_39 : (39 : Int32) = ii 39 := rfl
theorem il_40 : (40 : Int32) = ii 40 := rfl
theorem il_41 : (41 : Int32) = ii 41 := rfl
theorem il_42 : (42 : Int32) = ii 42 := rfl
theorem il_43 : (43 : Int32) = ii 43 := rfl
theorem il_44 : (44 : Int32) = ii 44 := rfl
theorem il_45 : (45 : Int32) = ii 45 := rfl
theorem il_46 : (46 : Int32) = ii 46 := rfl
theorem il_47 : (47 : Int32) = ii 47 := rfl
theorem il_48 : (48 : Int32) = ii 48 := rfl
theorem il_49 : (49 : Int32) = ii 49 := rfl
theorem il_50 : (50 : Int32) = ii 50 := rfl
theorem il_51 : (51 : Int32) = ii 51 := rfl
theorem il_52 : (52 : Int32) = ii 52 := rfl
theorem il_53 : (53 : Int32) = ii 53 := rfl
theorem il_54 : (54 : Int32) = ii 54 := rfl
theorem il_55 : (55 : Int32) = ii 55 := rfl
theorem il_56 : (56 : Int32) = ii 56 := rfl
theorem il_57 : (57 : Int32) = ii 57 := rfl
theorem il_58 : (58 : Int32) = ii 58 := rfl
theorem il_59 : (59 : Int32) = ii 59 := rfl
theorem il_60 : (60 : Int32) = ii 60 := rfl
theorem il_61 : (61 : Int32) = ii 61 := rfl
theorem il_62 : (62 : Int32) = ii 62 := rfl
theorem il_63 : (63 : Int32) = ii 63 := rfl
theorem il_64 : (64 : Int32) = ii 64 := rfl
theorem il_65 : (65 : Int32) = ii 65 := rfl
theorem il_66 : (66 : Int32) = ii 66 := rfl
theorem il_67 : (67 : Int32) = ii 67 := rfl
theorem il_68 : (68 : Int32) = ii 68 := rfl
theorem il_69 : (69 : Int32) = ii 69 := rfl
theorem il_70 : (70 : Int32) = ii 70 := rfl
theorem il_71 : (71 : Int32) = ii 71 := rfl
theorem il_72 : (72 : Int32) = ii 72 := rfl
theorem il_73 : (73 : Int32) = ii 73 := rfl
theorem il_74 : (74 : Int32) = ii 74 := rfl
theorem il_75 : (75 : Int32) = ii 75 := rfl
theorem il_76 : (76 : Int32) = ii 76 := rfl
theorem il_77 : (77 : Int32) = ii 77 := rfl
theorem il_78 : (78 : Int32) = ii 78 := rfl
theorem il_79 : (79 : Int32) = ii 79 := rfl
theorem il_80 : (80 : Int32) = ii 80 := rfl
theorem il_81 : (81 : Int32) = ii 81 := rfl
theorem il_82 : (82 : Int32) = ii 82 := rfl
theorem il_83 : (83 : Int32) = ii 83 := rfl
theorem il_84 : (84 : Int32) = ii 84 := rfl
theorem il_85 : (85 : Int32) = ii 85 := rfl
theorem il_86 : (86 : Int32) = ii 86 := rfl
theorem il_87 : (87 : Int32) = ii 87 := rfl
theorem il_88 : (88 : Int32) = ii 88 := rfl
theorem il_89 : (89 : Int32) = ii 89 := rfl
theorem il_90 : (90 : Int32) = ii 90 := rfl
theorem il_91 : (91 : Int32) = ii 91 := rfl
theorem il_92 : (92 : Int32) = ii 92 := rfl
theorem il_93 : (93 : Int32) = ii 93 := rfl
theorem il_94 : (94 : Int32) = ii 94 := rfl
theorem il_95 : (95 : Int32) = ii 95 := rfl
theorem il_96 : (96 : Int32) = ii 96 := rfl
theorem il_97 : (97 : Int32) = ii 97 := rfl
theorem il_98 : (98 : Int32) = ii 98 := rfl
theorem il_99 : (99 : Int32) = ii 99 := rfl
theorem il_100 : (100 : Int32) = ii 100 := rfl
theorem il_101 : (101 : Int32) = ii 101 := rfl
theorem il_102 : (102 : Int32) = ii 102 := rfl
theorem il_103 : (103 : Int32) = ii 103 := rfl
theorem il_104 : (104 : Int32) = ii 104 := rfl
theorem il_105 : (105 : Int32) = ii 105 := rfl
theorem il_106 : (106 : Int32) = ii 106 := rfl
theorem il_107 : (107 : Int32) = ii 107 := rfl
theorem il_108 : (108 : Int32) = ii 108 := rfl
theorem il_109 : (109 : Int32) = ii 109 := rfl
theorem il_110 : (110 : Int32) = ii 110 := rfl
theorem il_111 : (111 : Int32) = ii 111 := rfl
theorem il_112 : (112 : Int32) = ii 112 := rfl
theorem il_113 : (113 : Int32) = ii 113 := rfl
theorem il_114 : (114 : Int32) = ii 114 := rfl
theorem il_115 : (115 : Int32) = ii 115 := rfl
theorem il_116 : (116 : Int32) = ii 116 := rfl
theorem il_117 : (117 : Int32) = ii 117 := rfl
theorem il_118 : (118 : Int32) = ii 118 := rfl
theorem il_119 : (119 : Int32) = ii 119 := rfl
theorem il_120 : (120 : Int32) = ii 120 := rfl
theorem il_121 : (121 : Int32) = ii 121 := rfl
theorem il_122 : (122 : Int32) = ii 122 := rfl
theorem il_123 : (123 : Int32) = ii 123 := rfl
theorem il_124 : (124 : Int32) = ii 124 := rfl
theorem il_125 : (125 : Int32) = ii 125 := rfl
theorem il_126 : (126 : Int32) = ii 126 := rfl
theorem il_127 : (127 : Int32) = ii 127 := rfl
theorem il_128 : (128 : Int32) = ii 128 := rfl
theorem il_129 : (129 : Int32) = ii 129 := rfl
theorem il_130 : (130 : Int32) = ii 130 := rfl
theorem il_131 : (131 : Int32) = ii 131 := rfl
theorem il_132 : (132 : Int32) = ii 132 := rfl
theorem il_133 : (133 : Int32) = ii 133 := rfl
theorem il_134 : (134 : Int32) = ii 134 := rfl
theorem il_135 : (135 : Int32) = ii 135 := rfl
theorem il_136 : (136 : Int32) = ii 136 := rfl
theorem il_137 : (137 : Int32) = ii 137 := rfl
theorem il_138 : (138 : Int32) = ii 138 := rfl
theorem il_139 : (139 : Int32) = ii 139 := rfl
theorem il_140 : (140 : Int32) = ii 140 := rfl
theorem il_141 : (141 : Int32) = ii 141 := rfl
theorem il_142 : (142 : Int32) = ii 142 := rfl
theorem il_143 : (143 : Int32) = ii 143 := rfl
theorem il_144 : (144 : Int32) = ii 144 := rfl
theorem il_145 : (145 : Int32) = ii 145 := rfl
theorem il_146 : (146 : Int32) = ii 146 := rfl
theorem il_147 : (147 : Int32) = ii 147 := rfl
theorem il_148 : (148 : Int32) = ii 148 := rfl
theorem il_149 : (149 : Int32) = ii 149 := rfl
theorem il_150 : (150 : Int32) = ii 150 := rfl
theorem il_151 : (151 : Int32) = ii 151 := rfl
theorem il_152 : (152 : Int32) = ii 152 := rfl
theorem il_153 : (153 : Int32) = ii 153 := rfl
theorem il_154 : (154 : Int32) = ii 154 := rfl
theorem il_155 : (155 : Int32) = ii 155 := rfl
theorem il_156 : (156 : Int32) = ii 156 := rfl
theorem il_157 : (157 : Int32) = ii 157 := rfl
theorem il_158 : (158 : Int32) = ii 158 := rfl
theorem il_159 : (159 : Int32) = ii 159 := rfl
theorem il_160 : (160 : Int32) = ii 160 := rfl
theorem il_161 : (161 : Int32) = ii 161 := rfl
theorem il_162 : (162 : Int32) = ii 162 := rfl
theorem il_163 : (163 : Int32) = ii 163 := rfl
theorem il_164 : (164 : Int32) = ii 164 := rfl
theorem il_165 : (165 : Int32) = ii 165 := rfl
theorem il_166 : (166 : Int32) = ii 166 := rfl
theorem il_167 : (167 : Int32) = ii 167 := rfl
theorem il_168 : (168 : Int32) = ii 168 := rfl
theorem il_169 : (169 : Int32) = ii 169 := rfl
theorem il_170 : (170 : Int32) = ii 170 := rfl
theorem il_171 : (171 : Int32) = ii 171 := rfl
theorem il_172 : (172 : Int32) = ii 172 := rfl
theorem il_173 : (173 : Int32) = ii 173 := rfl
theorem il_174 : (174 : Int32) = ii 174 := rfl
theorem il_175 : (175 : Int32) = ii 175 := rfl
theorem il_176 : (176 : Int32) = ii 176 := rfl
theorem il_177 : (177 : Int32) = ii 177 := rfl
theorem il_178 : (178 : Int32) = ii 178 := rfl
theorem il_179 : (179 : Int32) = ii 179 := rfl
theorem il_180 : (180 : Int32) = ii 180 := rfl
theorem il_181 : (181 : Int32) = ii 181 := rfl
theorem il_182 : (182 : Int32) = ii 182 := rfl
theorem il_183 : (183 : Int32) = ii 183 := rfl
theorem il_184 : (184 : Int32) = ii 184 := rfl
theorem il_185 : (185 : Int32) = ii 185 := rfl
theorem il_186 : (186 : Int32) = ii 186 := rfl
theorem il_187 : (187 : Int32) = ii 187 := rfl
theorem il_188 : (188 : Int32) = ii 188 := rfl
theorem il_189 : (189 : Int32) = ii 189 := rfl
theorem il_190 : (190 : Int32) = ii 190 := rfl
theorem il_191 : (191 : Int32) = ii 191 := rfl
theorem il_192 : (192 : Int32) = ii 192 := rfl
theorem il_193 : (193 : Int32) = ii 193 := rfl
theorem il_194 : (194 : Int32) = ii 194 := rfl
theorem il_195 : (195 : Int32) = ii 195 := rfl
theorem il_196 : (196 : Int32) = ii 196 := rfl
theorem il_197 : (197 : Int32) = ii 197 := rfl
theorem il_198 : (198 : Int32) = ii 198 := rfl
theorem il_199 : (199 : Int32) = ii 199 := rfl
theorem il_200 : (200 : Int32) = ii 200 := rfl
theorem il_201 : (201 : Int32) = ii 201 := rfl
theorem il_202 : (202 : Int32) = ii 202 := rfl
theorem il_203 : (203 : Int32) = ii 203 := rfl
theorem il_204 : (204 : Int32) = ii 204 := rfl
theorem il_205 : (205 : Int32) = ii 205 := rfl
theorem il_206 : (206 : Int32) = ii 206 := rfl
theorem il_207 : (207 : Int32) = ii 207 := rfl
theorem il_208 : (208 : Int32) = ii 208 := rfl
theorem il_209 : (209 : Int32) = ii 209 := rfl
theorem il_210 : (210 : Int32) = ii 210 := rfl
theorem il_211 : (211 : Int32) = ii 211 := rfl
theorem il_212 : (212 : Int32) = ii 212 := rfl
theorem il_213 : (213 : Int32) = ii 213 := rfl
theorem il_214 : (214 : Int32) = ii 214 := rfl
theorem il_215 : (215 : Int32) = ii 215 := rfl
theorem il_216 : (216 : Int32) = ii 216 := rfl
theorem il_217 : (217 : Int32) = ii 217 := rfl
theorem il_218 : (218 : Int32) = ii 218 := rfl
theorem il_219 : (219 : Int32) = ii 219 := rfl
theorem il_220 : (220 : Int32) = ii 220 := rfl
theorem il_221 : (221 : Int32) = ii 221 := rfl
theorem il_222 : (222 : Int32) = ii 222 := rfl
theorem il_223 : (223 : Int32) = ii 223 := rfl
theorem il_224 : (224 : Int32) = ii 224 := rfl
theorem il_225 : (225 : Int32) = ii 225 := rfl
theorem il_226 : (226 : Int32) = ii 226 := rfl
theorem il_227 : (227 : Int32) = ii 227 := rfl
theorem il_228 : (228 : Int32) = ii 228 := rfl
theorem il_229 : (229 : Int32) = ii 229 := rfl
theorem il_230 : (230 : Int32) = ii 230 := rfl
theorem il_231 : (231 : Int32) = ii 231 := rfl
theorem il_232 : (232 : Int32) = ii 232 := rfl
theorem il_233 : (233 : Int32) = ii 233 := rfl
theorem il_234 : (234 : Int32) = ii 234 := rfl
theorem il_235 : (235 : Int32) = ii 235 := rfl
theorem il_236 : (236 : Int32) = ii 236 := rfl
theorem il_237 : (237 : Int32) = ii 237 := rfl
theorem il_238 : (238 : Int32) = ii 238 := rfl
theorem il_239 : (239 : Int32) = ii 239 := rfl
theorem il_240 : (240 : Int32) = ii 240 := rfl
theorem il_241 : (241 : Int32) = ii 241 := rfl
theorem il_242 : (242 : Int32) = ii 242 := rfl
theorem il_243 : (243 : Int32) = ii 243 := rfl
theorem il_244 : (244 : Int32) = ii 244 := rfl
theorem il_245 : (245 : Int32) = ii 245 := rfl
theorem il_246 : (246 : Int32) = ii 246 := rfl
theorem il_247 : (247 : Int32) = ii 247 := rfl
theorem il_248 : (248 : Int32) = ii 248 := rfl
theorem il_249 : (249 : Int32) = ii 249 := rfl
theorem il_250 : (250 : Int32) = ii 250 := rfl
theorem il_251 : (251 : Int32) = ii 251 := rfl
theorem il_252 : (252 : Int32) = ii 252 := rfl
theorem il_253 : (253 : Int32) = ii 253 := rfl
theorem il_254 : (254 : Int32) = ii 254 := rfl
theorem il_255 : (255 : Int32) = ii 255 := rfl
theorem il_400 : (400 : Int32) = ii 400 := rfl
theorem il_480 : (480 : Int32) = ii 480 := rfl
theorem il_1023 : (1023 : Int32) = ii 1023 := rfl
theorem il_2880 : (2880 : Int32) = ii 2880 := rfl
theorem il_3000 : (3000 : Int32) = ii 3000 := rfl
theorem il_6000 : (6000 : Int32) = ii 6000 := rfl
theorem il_m1 : (-1 : Int32) = ii (-1) := rfl
theorem il_m8 : (-8 : Int32) = ii (-8) := rfl
theorem ob_some {α β : Type} (a : α) (f : α → Option β) : (some a).bind f = f a := rfl

/-! ===== GapTellingsModel(): its cells ===== -/
def lA (l : List Int32) (k : Nat) : Nat → Int32 := fun j => if j < k then l.getD j 0 else 0
theorem g_lA0 {κ : Kg} {nL n z N q pc : Nat} {wr : va_W} {lv : List (Nat × Value)} {st : List Value} {l : List Int32} (k : G κ nL n z (LW κ (wr ++ [(q, fA κ.2.2.2.1 N (lA l 0))])) pc lv st) : G κ nL n z (LW κ (wr ++ [(q, iA κ.2.2.2.1 N)])) pc lv st := by
  have e : (fun _ => 0 : Nat → Int32) = lA l 0 := by
    funext j
    unfold lA
    rw [if_neg (by omega)]
  unfold iA
  rw [e]
  exact k
theorem g_iastE {κ : Kg} {own : String} {cc : ByteArray} {nL : Nat} {ret : Option FieldType} {rm : Room} {n z N a pc : Nat} {wr : va_W} {lv : List (Nat × Value)} {st : List Value} {l : List Int32} {k : Nat} {i v : Int32} (C : Cg κ own cc nL ret rm) (hd : decode cc pc = .ok (.iastore, 1)) (hi : i.toNatClampNeg = k) (hin : vp_in i N) (hv : l.getD k 0 = v) (kk : G κ nL n z (LW κ (wr ++ [(a, fA κ.2.2.2.1 N (lA l (k + 1)))])) (pc + 1) lv st) : G κ nL n z (LW κ (wr ++ [(a, fA κ.2.2.2.1 N (lA l k))])) pc lv (.int v :: .int i :: .ref a :: st) := by
  refine g_iastL C (f := lA l k) wr.length hd (by simp) hin (ws' := wr ++ [(a, fA κ.2.2.2.1 N (lA l (k + 1)))]) ?_ kk
  have e : upd (lA l k) i.toNatClampNeg v = lA l (k + 1) := by
    funext j
    unfold upd lA
    rw [hi]
    by_cases h : j = k
    · subst h
      rw [if_pos rfl, if_pos (by omega), hv]
    · rw [if_neg h]
      by_cases h2 : j < k
      · rw [if_pos h2, if_pos (by omega)]
      · rw [if_neg h2, if_neg (by omega)]
  rw [e]
  simp
theorem dX8_init_0 : decode cX8_init 0 = .ok (.aload_n 0, 1) := by decide +kernel
theorem dX8_init_1 : decode cX8_init 1 = .ok (.invokespecial 1, 3) := by decide +kernel
theorem dX8_init_4 : decode cX8_init 4 = .ok (.aload_n 0, 1) := by decide +kernel
theorem dX8_init_5 : decode cX8_init 5 = .ok (.sipush 200, 3) := by decide +kernel
theorem dX8_init_8 : decode cX8_init 8 = .ok (.newarray .int, 2) := by decide +kernel
theorem dX8_init_10 : decode cX8_init 10 = .ok (.putfield 7, 3) := by decide +kernel
theorem dX8_init_13 : decode cX8_init 13 = .ok (.aload_n 0, 1) := by decide +kernel
theorem dX8_init_14 : decode cX8_init 14 = .ok (.bipush 36, 2) := by decide +kernel
theorem dX8_init_16 : decode cX8_init 16 = .ok (.newarray .int, 2) := by decide +kernel
theorem dX8_init_18 : decode cX8_init 18 = .ok (.putfield 13, 3) := by decide +kernel
theorem dX8_init_21 : decode cX8_init 21 = .ok (.aload_n 0, 1) := by decide +kernel
theorem dX8_init_22 : decode cX8_init 22 = .ok (.bipush 77, 2) := by decide +kernel
theorem dX8_init_24 : decode cX8_init 24 = .ok (.newarray .int, 2) := by decide +kernel
theorem dX8_init_26 : decode cX8_init 26 = .ok (.putfield 16, 3) := by decide +kernel
theorem dX8_init_29 : decode cX8_init 29 = .ok (.aload_n 0, 1) := by decide +kernel
theorem dX8_init_30 : decode cX8_init 30 = .ok (.iconst 4, 1) := by decide +kernel
theorem dX8_init_31 : decode cX8_init 31 = .ok (.newarray .int, 2) := by decide +kernel
theorem dX8_init_33 : decode cX8_init 33 = .ok (.dup, 1) := by decide +kernel
theorem dX8_init_34 : decode cX8_init 34 = .ok (.iconst 0, 1) := by decide +kernel
theorem dX8_init_35 : decode cX8_init 35 = .ok (.iconst 2, 1) := by decide +kernel
theorem dX8_init_36 : decode cX8_init 36 = .ok (.iastore, 1) := by decide +kernel
theorem dX8_init_37 : decode cX8_init 37 = .ok (.dup, 1) := by decide +kernel
theorem dX8_init_38 : decode cX8_init 38 = .ok (.iconst 1, 1) := by decide +kernel
theorem dX8_init_39 : decode cX8_init 39 = .ok (.iconst 1, 1) := by decide +kernel
theorem dX8_init_40 : decode cX8_init 40 = .ok (.iastore, 1) := by decide +kernel
theorem dX8_init_41 : decode cX8_init 41 = .ok (.dup, 1) := by decide +kernel
theorem dX8_init_42 : decode cX8_init 42 = .ok (.iconst 2, 1) := by decide +kernel
theorem dX8_init_43 : decode cX8_init 43 = .ok (.iconst 3, 1) := by decide +kernel
theorem dX8_init_44 : decode cX8_init 44 = .ok (.iastore, 1) := by decide +kernel
theorem dX8_init_45 : decode cX8_init 45 = .ok (.dup, 1) := by decide +kernel
theorem dX8_init_46 : decode cX8_init 46 = .ok (.iconst 3, 1) := by decide +kernel
theorem dX8_init_47 : decode cX8_init 47 = .ok (.iconst 1, 1) := by decide +kernel
theorem dX8_init_48 : decode cX8_init 48 = .ok (.iastore, 1) := by decide +kernel
theorem dX8_init_49 : decode cX8_init 49 = .ok (.putfield 19, 3) := by decide +kernel
theorem dX8_init_52 : decode cX8_init 52 = .ok (.aload_n 0, 1) := by decide +kernel
theorem dX8_init_53 : decode cX8_init 53 = .ok (.bipush 36, 2) := by decide +kernel
theorem dX8_init_55 : decode cX8_init 55 = .ok (.newarray .int, 2) := by decide +kernel
theorem dX8_init_57 : decode cX8_init 57 = .ok (.putfield 22, 3) := by decide +kernel
theorem dX8_init_60 : decode cX8_init 60 = .ok (.aload_n 0, 1) := by decide +kernel
theorem dX8_init_61 : decode cX8_init 61 = .ok (.bipush 77, 2) := by decide +kernel
theorem dX8_init_63 : decode cX8_init 63 = .ok (.newarray .int, 2) := by decide +kernel
theorem dX8_init_65 : decode cX8_init 65 = .ok (.putfield 25, 3) := by decide +kernel
theorem dX8_init_68 : decode cX8_init 68 = .ok (.aload_n 0, 1) := by decide +kernel
theorem dX8_init_69 : decode cX8_init 69 = .ok (.bipush 7, 2) := by decide +kernel
theorem dX8_init_71 : decode cX8_init 71 = .ok (.newarray .int, 2) := by decide +kernel
theorem dX8_init_73 : decode cX8_init 73 = .ok (.putfield 28, 3) := by decide +kernel
theorem dX8_init_76 : decode cX8_init 76 = .ok (.aload_n 0, 1) := by decide +kernel
theorem dX8_init_77 : decode cX8_init 77 = .ok (.bipush 7, 2) := by decide +kernel
theorem dX8_init_79 : decode cX8_init 79 = .ok (.newarray .int, 2) := by decide +kernel
theorem dX8_init_81 : decode cX8_init 81 = .ok (.putfield 31, 3) := by decide +kernel
theorem dX8_init_84 : decode cX8_init 84 = .ok (.aload_n 0, 1) := by decide +kernel
theorem dX8_init_85 : decode cX8_init 85 = .ok (.bipush 7, 2) := by decide +kernel
theorem dX8_init_87 : decode cX8_init 87 = .ok (.newarray .int, 2) := by decide +kernel
theorem dX8_init_89 : decode cX8_init 89 = .ok (.putfield 34, 3) := by decide +kernel
theorem dX8_init_92 : decode cX8_init 92 = .ok (.aload_n 0, 1) := by decide +kernel
theorem dX8_init_93 : decode cX8_init 93 = .ok (.bipush 7, 2) := by decide +kernel
theorem dX8_init_95 : decode cX8_init 95 = .ok (.newarray .int, 2) := by decide +kernel
theorem dX8_init_97 : decode cX8_init 97 = .ok (.putfield 37, 3) := by decide +kernel
theorem dX8_init_100 : decode cX8_init 100 = .ok (.aload_n 0, 1) := by decide +kernel
theorem dX8_init_101 : decode cX8_init 101 = .ok (.bipush 7, 2) := by decide +kernel
theorem dX8_init_103 : decode cX8_init 103 = .ok (.newarray .int, 2) := by decide +kernel
theorem dX8_init_105 : decode cX8_init 105 = .ok (.putfield 40, 3) := by decide +kernel
theorem dX8_init_108 : decode cX8_init 108 = .ok (.aload_n 0, 1) := by decide +kernel
theorem dX8_init_109 : decode cX8_init 109 = .ok (.bipush 7, 2) := by decide +kernel
theorem dX8_init_111 : decode cX8_init 111 = .ok (.newarray .int, 2) := by decide +kernel
theorem dX8_init_113 : decode cX8_init 113 = .ok (.putfield 43, 3) := by decide +kernel
theorem dX8_init_116 : decode cX8_init 116 = .ok (.aload_n 0, 1) := by decide +kernel
theorem dX8_init_117 : decode cX8_init 117 = .ok (.bipush 21, 2) := by decide +kernel
theorem dX8_init_119 : decode cX8_init 119 = .ok (.newarray .int, 2) := by decide +kernel
theorem dX8_init_121 : decode cX8_init 121 = .ok (.putfield 46, 3) := by decide +kernel
theorem dX8_init_124 : decode cX8_init 124 = .ok (.aload_n 0, 1) := by decide +kernel
theorem dX8_init_125 : decode cX8_init 125 = .ok (.bipush 100, 2) := by decide +kernel
theorem dX8_init_127 : decode cX8_init 127 = .ok (.newarray .int, 2) := by decide +kernel
theorem dX8_init_129 : decode cX8_init 129 = .ok (.putfield 49, 3) := by decide +kernel
theorem dX8_init_132 : decode cX8_init 132 = .ok (.aload_n 0, 1) := by decide +kernel
theorem dX8_init_133 : decode cX8_init 133 = .ok (.sipush 12928, 3) := by decide +kernel
theorem dX8_init_136 : decode cX8_init 136 = .ok (.newarray .int, 2) := by decide +kernel
theorem dX8_init_138 : decode cX8_init 138 = .ok (.putfield 52, 3) := by decide +kernel
theorem dX8_init_141 : decode cX8_init 141 = .ok (.aload_n 0, 1) := by decide +kernel
theorem dX8_init_142 : decode cX8_init 142 = .ok (.bipush 15, 2) := by decide +kernel
theorem dX8_init_144 : decode cX8_init 144 = .ok (.newarray .int, 2) := by decide +kernel
theorem dX8_init_146 : decode cX8_init 146 = .ok (.dup, 1) := by decide +kernel
theorem dX8_init_147 : decode cX8_init 147 = .ok (.iconst 0, 1) := by decide +kernel
theorem dX8_init_148 : decode cX8_init 148 = .ok (.iconst 0, 1) := by decide +kernel
theorem dX8_init_149 : decode cX8_init 149 = .ok (.iastore, 1) := by decide +kernel
theorem dX8_init_150 : decode cX8_init 150 = .ok (.dup, 1) := by decide +kernel
theorem dX8_init_151 : decode cX8_init 151 = .ok (.iconst 1, 1) := by decide +kernel
theorem dX8_init_152 : decode cX8_init 152 = .ok (.iconst 0, 1) := by decide +kernel
theorem dX8_init_153 : decode cX8_init 153 = .ok (.iastore, 1) := by decide +kernel
theorem dX8_init_154 : decode cX8_init 154 = .ok (.dup, 1) := by decide +kernel
theorem dX8_init_155 : decode cX8_init 155 = .ok (.iconst 2, 1) := by decide +kernel
theorem dX8_init_156 : decode cX8_init 156 = .ok (.bipush 6, 2) := by decide +kernel
theorem dX8_init_158 : decode cX8_init 158 = .ok (.iastore, 1) := by decide +kernel
theorem dX8_init_159 : decode cX8_init 159 = .ok (.dup, 1) := by decide +kernel
theorem dX8_init_160 : decode cX8_init 160 = .ok (.iconst 3, 1) := by decide +kernel
theorem dX8_init_161 : decode cX8_init 161 = .ok (.iconst 0, 1) := by decide +kernel
theorem dX8_init_162 : decode cX8_init 162 = .ok (.iastore, 1) := by decide +kernel
theorem dX8_init_163 : decode cX8_init 163 = .ok (.dup, 1) := by decide +kernel
theorem dX8_init_164 : decode cX8_init 164 = .ok (.iconst 4, 1) := by decide +kernel
theorem dX8_init_165 : decode cX8_init 165 = .ok (.bipush 14, 2) := by decide +kernel
theorem dX8_init_167 : decode cX8_init 167 = .ok (.iastore, 1) := by decide +kernel
theorem dX8_init_168 : decode cX8_init 168 = .ok (.dup, 1) := by decide +kernel
theorem dX8_init_169 : decode cX8_init 169 = .ok (.iconst 5, 1) := by decide +kernel
theorem dX8_init_170 : decode cX8_init 170 = .ok (.bipush 20, 2) := by decide +kernel
theorem dX8_init_172 : decode cX8_init 172 = .ok (.iastore, 1) := by decide +kernel
theorem dX8_init_173 : decode cX8_init 173 = .ok (.dup, 1) := by decide +kernel
theorem dX8_init_174 : decode cX8_init 174 = .ok (.bipush 6, 2) := by decide +kernel
theorem dX8_init_176 : decode cX8_init 176 = .ok (.iconst 1, 1) := by decide +kernel
theorem dX8_init_177 : decode cX8_init 177 = .ok (.iastore, 1) := by decide +kernel
theorem dX8_init_178 : decode cX8_init 178 = .ok (.dup, 1) := by decide +kernel
theorem dX8_init_179 : decode cX8_init 179 = .ok (.bipush 7, 2) := by decide +kernel
theorem dX8_init_181 : decode cX8_init 181 = .ok (.bipush 20, 2) := by decide +kernel
theorem dX8_init_183 : decode cX8_init 183 = .ok (.iastore, 1) := by decide +kernel
theorem dX8_init_184 : decode cX8_init 184 = .ok (.dup, 1) := by decide +kernel
theorem dX8_init_185 : decode cX8_init 185 = .ok (.bipush 8, 2) := by decide +kernel
theorem dX8_init_187 : decode cX8_init 187 = .ok (.bipush 28, 2) := by decide +kernel
theorem dX8_init_189 : decode cX8_init 189 = .ok (.iastore, 1) := by decide +kernel
theorem dX8_init_190 : decode cX8_init 190 = .ok (.dup, 1) := by decide +kernel
theorem dX8_init_191 : decode cX8_init 191 = .ok (.bipush 9, 2) := by decide +kernel
theorem dX8_init_193 : decode cX8_init 193 = .ok (.iconst 0, 1) := by decide +kernel
theorem dX8_init_194 : decode cX8_init 194 = .ok (.iastore, 1) := by decide +kernel
theorem dX8_init_195 : decode cX8_init 195 = .ok (.dup, 1) := by decide +kernel
theorem dX8_init_196 : decode cX8_init 196 = .ok (.bipush 10, 2) := by decide +kernel
theorem dX8_init_198 : decode cX8_init 198 = .ok (.bipush 33, 2) := by decide +kernel
theorem dX8_init_200 : decode cX8_init 200 = .ok (.iastore, 1) := by decide +kernel
theorem dX8_init_201 : decode cX8_init 201 = .ok (.dup, 1) := by decide +kernel
theorem dX8_init_202 : decode cX8_init 202 = .ok (.bipush 11, 2) := by decide +kernel
theorem dX8_init_204 : decode cX8_init 204 = .ok (.bipush 40, 2) := by decide +kernel
theorem dX8_init_206 : decode cX8_init 206 = .ok (.iastore, 1) := by decide +kernel
theorem dX8_init_207 : decode cX8_init 207 = .ok (.dup, 1) := by decide +kernel
theorem dX8_init_208 : decode cX8_init 208 = .ok (.bipush 12, 2) := by decide +kernel
theorem dX8_init_210 : decode cX8_init 210 = .ok (.iconst 2, 1) := by decide +kernel
theorem dX8_init_211 : decode cX8_init 211 = .ok (.iastore, 1) := by decide +kernel
theorem dX8_init_212 : decode cX8_init 212 = .ok (.dup, 1) := by decide +kernel
theorem dX8_init_213 : decode cX8_init 213 = .ok (.bipush 13, 2) := by decide +kernel
theorem dX8_init_215 : decode cX8_init 215 = .ok (.bipush 44, 2) := by decide +kernel
theorem dX8_init_217 : decode cX8_init 217 = .ok (.iastore, 1) := by decide +kernel
theorem dX8_init_218 : decode cX8_init 218 = .ok (.dup, 1) := by decide +kernel
theorem dX8_init_219 : decode cX8_init 219 = .ok (.bipush 14, 2) := by decide +kernel
theorem dX8_init_221 : decode cX8_init 221 = .ok (.bipush 50, 2) := by decide +kernel
theorem dX8_init_223 : decode cX8_init 223 = .ok (.iastore, 1) := by decide +kernel
theorem dX8_init_224 : decode cX8_init 224 = .ok (.putfield 55, 3) := by decide +kernel
theorem dX8_init_227 : decode cX8_init 227 = .ok (.aload_n 0, 1) := by decide +kernel
theorem dX8_init_228 : decode cX8_init 228 = .ok (.bipush 22, 2) := by decide +kernel
theorem dX8_init_230 : decode cX8_init 230 = .ok (.newarray .int, 2) := by decide +kernel
theorem dX8_init_232 : decode cX8_init 232 = .ok (.dup, 1) := by decide +kernel
theorem dX8_init_233 : decode cX8_init 233 = .ok (.iconst 0, 1) := by decide +kernel
theorem dX8_init_234 : decode cX8_init 234 = .ok (.bipush 8, 2) := by decide +kernel
theorem dX8_init_236 : decode cX8_init 236 = .ok (.iastore, 1) := by decide +kernel
theorem dX8_init_237 : decode cX8_init 237 = .ok (.dup, 1) := by decide +kernel
theorem dX8_init_238 : decode cX8_init 238 = .ok (.iconst 1, 1) := by decide +kernel
theorem dX8_init_239 : decode cX8_init 239 = .ok (.iconst 4, 1) := by decide +kernel
theorem dX8_init_240 : decode cX8_init 240 = .ok (.iastore, 1) := by decide +kernel
theorem dX8_init_241 : decode cX8_init 241 = .ok (.dup, 1) := by decide +kernel
theorem dX8_init_242 : decode cX8_init 242 = .ok (.iconst 2, 1) := by decide +kernel
theorem dX8_init_243 : decode cX8_init 243 = .ok (.iconst 4, 1) := by decide +kernel
theorem dX8_init_244 : decode cX8_init 244 = .ok (.iastore, 1) := by decide +kernel
theorem dX8_init_245 : decode cX8_init 245 = .ok (.dup, 1) := by decide +kernel
theorem dX8_init_246 : decode cX8_init 246 = .ok (.iconst 3, 1) := by decide +kernel
theorem dX8_init_247 : decode cX8_init 247 = .ok (.iconst 2, 1) := by decide +kernel
theorem dX8_init_248 : decode cX8_init 248 = .ok (.iastore, 1) := by decide +kernel
theorem dX8_init_249 : decode cX8_init 249 = .ok (.dup, 1) := by decide +kernel
theorem dX8_init_250 : decode cX8_init 250 = .ok (.iconst 4, 1) := by decide +kernel
theorem dX8_init_251 : decode cX8_init 251 = .ok (.bipush (-4), 2) := by decide +kernel
theorem dX8_init_253 : decode cX8_init 253 = .ok (.iastore, 1) := by decide +kernel
theorem dX8_init_254 : decode cX8_init 254 = .ok (.dup, 1) := by decide +kernel
theorem dX8_init_255 : decode cX8_init 255 = .ok (.iconst 5, 1) := by decide +kernel
theorem dX8_init_256 : decode cX8_init 256 = .ok (.bipush 6, 2) := by decide +kernel
theorem dX8_init_258 : decode cX8_init 258 = .ok (.iastore, 1) := by decide +kernel
theorem dX8_init_259 : decode cX8_init 259 = .ok (.dup, 1) := by decide +kernel
theorem dX8_init_260 : decode cX8_init 260 = .ok (.bipush 6, 2) := by decide +kernel
theorem dX8_init_262 : decode cX8_init 262 = .ok (.bipush 9, 2) := by decide +kernel
theorem dX8_init_264 : decode cX8_init 264 = .ok (.iastore, 1) := by decide +kernel
theorem dX8_init_265 : decode cX8_init 265 = .ok (.dup, 1) := by decide +kernel
theorem dX8_init_266 : decode cX8_init 266 = .ok (.bipush 7, 2) := by decide +kernel
theorem dX8_init_268 : decode cX8_init 268 = .ok (.iconst 3, 1) := by decide +kernel
theorem dX8_init_269 : decode cX8_init 269 = .ok (.iastore, 1) := by decide +kernel
theorem dX8_init_270 : decode cX8_init 270 = .ok (.dup, 1) := by decide +kernel
theorem dX8_init_271 : decode cX8_init 271 = .ok (.bipush 8, 2) := by decide +kernel
theorem dX8_init_273 : decode cX8_init 273 = .ok (.iconst 5, 1) := by decide +kernel
theorem dX8_init_274 : decode cX8_init 274 = .ok (.iastore, 1) := by decide +kernel
theorem dX8_init_275 : decode cX8_init 275 = .ok (.dup, 1) := by decide +kernel
theorem dX8_init_276 : decode cX8_init 276 = .ok (.bipush 9, 2) := by decide +kernel
theorem dX8_init_278 : decode cX8_init 278 = .ok (.iconst 0, 1) := by decide +kernel
theorem dX8_init_279 : decode cX8_init 279 = .ok (.iastore, 1) := by decide +kernel
theorem dX8_init_280 : decode cX8_init 280 = .ok (.dup, 1) := by decide +kernel
theorem dX8_init_281 : decode cX8_init 281 = .ok (.bipush 10, 2) := by decide +kernel
theorem dX8_init_283 : decode cX8_init 283 = .ok (.iconst 0, 1) := by decide +kernel
theorem dX8_init_284 : decode cX8_init 284 = .ok (.iastore, 1) := by decide +kernel
theorem dX8_init_285 : decode cX8_init 285 = .ok (.dup, 1) := by decide +kernel
theorem dX8_init_286 : decode cX8_init 286 = .ok (.bipush 11, 2) := by decide +kernel
theorem dX8_init_288 : decode cX8_init 288 = .ok (.bipush 18, 2) := by decide +kernel
theorem dX8_init_290 : decode cX8_init 290 = .ok (.iastore, 1) := by decide +kernel
theorem dX8_init_291 : decode cX8_init 291 = .ok (.dup, 1) := by decide +kernel
theorem dX8_init_292 : decode cX8_init 292 = .ok (.bipush 12, 2) := by decide +kernel
theorem dX8_init_294 : decode cX8_init 294 = .ok (.bipush 6, 2) := by decide +kernel
theorem dX8_init_296 : decode cX8_init 296 = .ok (.iastore, 1) := by decide +kernel
theorem dX8_init_297 : decode cX8_init 297 = .ok (.dup, 1) := by decide +kernel
theorem dX8_init_298 : decode cX8_init 298 = .ok (.bipush 13, 2) := by decide +kernel
theorem dX8_init_300 : decode cX8_init 300 = .ok (.bipush 8, 2) := by decide +kernel
theorem dX8_init_302 : decode cX8_init 302 = .ok (.iastore, 1) := by decide +kernel
theorem dX8_init_303 : decode cX8_init 303 = .ok (.dup, 1) := by decide +kernel
theorem dX8_init_304 : decode cX8_init 304 = .ok (.bipush 14, 2) := by decide +kernel
theorem dX8_init_306 : decode cX8_init 306 = .ok (.iconst 2, 1) := by decide +kernel
theorem dX8_init_307 : decode cX8_init 307 = .ok (.iastore, 1) := by decide +kernel
theorem dX8_init_308 : decode cX8_init 308 = .ok (.dup, 1) := by decide +kernel
theorem dX8_init_309 : decode cX8_init 309 = .ok (.bipush 15, 2) := by decide +kernel
theorem dX8_init_311 : decode cX8_init 311 = .ok (.bipush (-4), 2) := by decide +kernel
theorem dX8_init_313 : decode cX8_init 313 = .ok (.iastore, 1) := by decide +kernel
theorem dX8_init_314 : decode cX8_init 314 = .ok (.dup, 1) := by decide +kernel
theorem dX8_init_315 : decode cX8_init 315 = .ok (.bipush 16, 2) := by decide +kernel
theorem dX8_init_317 : decode cX8_init 317 = .ok (.bipush 7, 2) := by decide +kernel
theorem dX8_init_319 : decode cX8_init 319 = .ok (.iastore, 1) := by decide +kernel
theorem dX8_init_320 : decode cX8_init 320 = .ok (.dup, 1) := by decide +kernel
theorem dX8_init_321 : decode cX8_init 321 = .ok (.bipush 17, 2) := by decide +kernel
theorem dX8_init_323 : decode cX8_init 323 = .ok (.bipush 12, 2) := by decide +kernel
theorem dX8_init_325 : decode cX8_init 325 = .ok (.iastore, 1) := by decide +kernel
theorem dX8_init_326 : decode cX8_init 326 = .ok (.dup, 1) := by decide +kernel
theorem dX8_init_327 : decode cX8_init 327 = .ok (.bipush 18, 2) := by decide +kernel
theorem dX8_init_329 : decode cX8_init 329 = .ok (.iconst 4, 1) := by decide +kernel
theorem dX8_init_330 : decode cX8_init 330 = .ok (.iastore, 1) := by decide +kernel
theorem dX8_init_331 : decode cX8_init 331 = .ok (.dup, 1) := by decide +kernel
theorem dX8_init_332 : decode cX8_init 332 = .ok (.bipush 19, 2) := by decide +kernel
theorem dX8_init_334 : decode cX8_init 334 = .ok (.bipush 7, 2) := by decide +kernel
theorem dX8_init_336 : decode cX8_init 336 = .ok (.iastore, 1) := by decide +kernel
theorem dX8_init_337 : decode cX8_init 337 = .ok (.dup, 1) := by decide +kernel
theorem dX8_init_338 : decode cX8_init 338 = .ok (.bipush 20, 2) := by decide +kernel
theorem dX8_init_340 : decode cX8_init 340 = .ok (.iconst 0, 1) := by decide +kernel
theorem dX8_init_341 : decode cX8_init 341 = .ok (.iastore, 1) := by decide +kernel
theorem dX8_init_342 : decode cX8_init 342 = .ok (.dup, 1) := by decide +kernel
theorem dX8_init_343 : decode cX8_init 343 = .ok (.bipush 21, 2) := by decide +kernel
theorem dX8_init_345 : decode cX8_init 345 = .ok (.iconst 0, 1) := by decide +kernel
theorem dX8_init_346 : decode cX8_init 346 = .ok (.iastore, 1) := by decide +kernel
theorem dX8_init_347 : decode cX8_init 347 = .ok (.putfield 58, 3) := by decide +kernel
theorem dX8_init_350 : decode cX8_init 350 = .ok (.aload_n 0, 1) := by decide +kernel
theorem dX8_init_351 : decode cX8_init 351 = .ok (.bipush 33, 2) := by decide +kernel
theorem dX8_init_353 : decode cX8_init 353 = .ok (.newarray .int, 2) := by decide +kernel
theorem dX8_init_355 : decode cX8_init 355 = .ok (.dup, 1) := by decide +kernel
theorem dX8_init_356 : decode cX8_init 356 = .ok (.iconst 0, 1) := by decide +kernel
theorem dX8_init_357 : decode cX8_init 357 = .ok (.bipush 30, 2) := by decide +kernel
theorem dX8_init_359 : decode cX8_init 359 = .ok (.iastore, 1) := by decide +kernel
theorem dX8_init_360 : decode cX8_init 360 = .ok (.dup, 1) := by decide +kernel
theorem dX8_init_361 : decode cX8_init 361 = .ok (.iconst 1, 1) := by decide +kernel
theorem dX8_init_362 : decode cX8_init 362 = .ok (.bipush 9, 2) := by decide +kernel
theorem dX8_init_364 : decode cX8_init 364 = .ok (.iastore, 1) := by decide +kernel
theorem dX8_init_365 : decode cX8_init 365 = .ok (.dup, 1) := by decide +kernel
theorem dX8_init_366 : decode cX8_init 366 = .ok (.iconst 2, 1) := by decide +kernel
theorem dX8_init_367 : decode cX8_init 367 = .ok (.iconst 5, 1) := by decide +kernel
theorem dX8_init_368 : decode cX8_init 368 = .ok (.iastore, 1) := by decide +kernel
theorem dX8_init_369 : decode cX8_init 369 = .ok (.dup, 1) := by decide +kernel
theorem dX8_init_370 : decode cX8_init 370 = .ok (.iconst 3, 1) := by decide +kernel
theorem dX8_init_371 : decode cX8_init 371 = .ok (.iconst 3, 1) := by decide +kernel
theorem dX8_init_372 : decode cX8_init 372 = .ok (.iastore, 1) := by decide +kernel
theorem dX8_init_373 : decode cX8_init 373 = .ok (.dup, 1) := by decide +kernel
theorem dX8_init_374 : decode cX8_init 374 = .ok (.iconst 4, 1) := by decide +kernel
theorem dX8_init_375 : decode cX8_init 375 = .ok (.iconst 1, 1) := by decide +kernel
theorem dX8_init_376 : decode cX8_init 376 = .ok (.iastore, 1) := by decide +kernel
theorem dX8_init_377 : decode cX8_init 377 = .ok (.dup, 1) := by decide +kernel
theorem dX8_init_378 : decode cX8_init 378 = .ok (.iconst 5, 1) := by decide +kernel
theorem dX8_init_379 : decode cX8_init 379 = .ok (.bipush 8, 2) := by decide +kernel
theorem dX8_init_381 : decode cX8_init 381 = .ok (.iastore, 1) := by decide +kernel
theorem dX8_init_382 : decode cX8_init 382 = .ok (.dup, 1) := by decide +kernel
theorem dX8_init_383 : decode cX8_init 383 = .ok (.bipush 6, 2) := by decide +kernel
theorem dX8_init_385 : decode cX8_init 385 = .ok (.bipush 20, 2) := by decide +kernel
theorem dX8_init_387 : decode cX8_init 387 = .ok (.iastore, 1) := by decide +kernel
theorem dX8_init_388 : decode cX8_init 388 = .ok (.dup, 1) := by decide +kernel
theorem dX8_init_389 : decode cX8_init 389 = .ok (.bipush 7, 2) := by decide +kernel
theorem dX8_init_391 : decode cX8_init 391 = .ok (.iconst 5, 1) := by decide +kernel
theorem dX8_init_392 : decode cX8_init 392 = .ok (.iastore, 1) := by decide +kernel
theorem dX8_init_393 : decode cX8_init 393 = .ok (.dup, 1) := by decide +kernel
theorem dX8_init_394 : decode cX8_init 394 = .ok (.bipush 8, 2) := by decide +kernel
theorem dX8_init_396 : decode cX8_init 396 = .ok (.bipush 12, 2) := by decide +kernel
theorem dX8_init_398 : decode cX8_init 398 = .ok (.iastore, 1) := by decide +kernel
theorem dX8_init_399 : decode cX8_init 399 = .ok (.dup, 1) := by decide +kernel
theorem dX8_init_400 : decode cX8_init 400 = .ok (.bipush 9, 2) := by decide +kernel
theorem dX8_init_402 : decode cX8_init 402 = .ok (.iconst 2, 1) := by decide +kernel
theorem dX8_init_403 : decode cX8_init 403 = .ok (.iastore, 1) := by decide +kernel
theorem dX8_init_404 : decode cX8_init 404 = .ok (.dup, 1) := by decide +kernel
theorem dX8_init_405 : decode cX8_init 405 = .ok (.bipush 10, 2) := by decide +kernel
theorem dX8_init_407 : decode cX8_init 407 = .ok (.bipush 6, 2) := by decide +kernel
theorem dX8_init_409 : decode cX8_init 409 = .ok (.iastore, 1) := by decide +kernel
theorem dX8_init_410 : decode cX8_init 410 = .ok (.dup, 1) := by decide +kernel
theorem dX8_init_411 : decode cX8_init 411 = .ok (.bipush 11, 2) := by decide +kernel
theorem dX8_init_413 : decode cX8_init 413 = .ok (.bipush 42, 2) := by decide +kernel
theorem dX8_init_415 : decode cX8_init 415 = .ok (.iastore, 1) := by decide +kernel
theorem dX8_init_416 : decode cX8_init 416 = .ok (.dup, 1) := by decide +kernel
theorem dX8_init_417 : decode cX8_init 417 = .ok (.bipush 12, 2) := by decide +kernel
theorem dX8_init_419 : decode cX8_init 419 = .ok (.iconst 3, 1) := by decide +kernel
theorem dX8_init_420 : decode cX8_init 420 = .ok (.iastore, 1) := by decide +kernel
theorem dX8_init_421 : decode cX8_init 421 = .ok (.dup, 1) := by decide +kernel
theorem dX8_init_422 : decode cX8_init 422 = .ok (.bipush 13, 2) := by decide +kernel
theorem dX8_init_424 : decode cX8_init 424 = .ok (.bipush 9, 2) := by decide +kernel
theorem dX8_init_426 : decode cX8_init 426 = .ok (.iastore, 1) := by decide +kernel
theorem dX8_init_427 : decode cX8_init 427 = .ok (.dup, 1) := by decide +kernel
theorem dX8_init_428 : decode cX8_init 428 = .ok (.bipush 14, 2) := by decide +kernel
theorem dX8_init_430 : decode cX8_init 430 = .ok (.iconst 1, 1) := by decide +kernel
theorem dX8_init_431 : decode cX8_init 431 = .ok (.iastore, 1) := by decide +kernel
theorem dX8_init_432 : decode cX8_init 432 = .ok (.dup, 1) := by decide +kernel
theorem dX8_init_433 : decode cX8_init 433 = .ok (.bipush 15, 2) := by decide +kernel
theorem dX8_init_435 : decode cX8_init 435 = .ok (.bipush (-4), 2) := by decide +kernel
theorem dX8_init_437 : decode cX8_init 437 = .ok (.iastore, 1) := by decide +kernel
theorem dX8_init_438 : decode cX8_init 438 = .ok (.dup, 1) := by decide +kernel
theorem dX8_init_439 : decode cX8_init 439 = .ok (.bipush 16, 2) := by decide +kernel
theorem dX8_init_441 : decode cX8_init 441 = .ok (.iconst 5, 1) := by decide +kernel
theorem dX8_init_442 : decode cX8_init 442 = .ok (.iastore, 1) := by decide +kernel
theorem dX8_init_443 : decode cX8_init 443 = .ok (.dup, 1) := by decide +kernel
theorem dX8_init_444 : decode cX8_init 444 = .ok (.bipush 17, 2) := by decide +kernel
theorem dX8_init_446 : decode cX8_init 446 = .ok (.bipush 8, 2) := by decide +kernel
theorem dX8_init_448 : decode cX8_init 448 = .ok (.iastore, 1) := by decide +kernel
theorem dX8_init_449 : decode cX8_init 449 = .ok (.dup, 1) := by decide +kernel
theorem dX8_init_450 : decode cX8_init 450 = .ok (.bipush 18, 2) := by decide +kernel
theorem dX8_init_452 : decode cX8_init 452 = .ok (.iconst 0, 1) := by decide +kernel
theorem dX8_init_453 : decode cX8_init 453 = .ok (.iastore, 1) := by decide +kernel
theorem dX8_init_454 : decode cX8_init 454 = .ok (.dup, 1) := by decide +kernel
theorem dX8_init_455 : decode cX8_init 455 = .ok (.bipush 19, 2) := by decide +kernel
theorem dX8_init_457 : decode cX8_init 457 = .ok (.iconst 0, 1) := by decide +kernel
theorem dX8_init_458 : decode cX8_init 458 = .ok (.iastore, 1) := by decide +kernel
theorem dX8_init_459 : decode cX8_init 459 = .ok (.dup, 1) := by decide +kernel
theorem dX8_init_460 : decode cX8_init 460 = .ok (.bipush 20, 2) := by decide +kernel
theorem dX8_init_462 : decode cX8_init 462 = .ok (.iconst 0, 1) := by decide +kernel
theorem dX8_init_463 : decode cX8_init 463 = .ok (.iastore, 1) := by decide +kernel
theorem dX8_init_464 : decode cX8_init 464 = .ok (.dup, 1) := by decide +kernel
theorem dX8_init_465 : decode cX8_init 465 = .ok (.bipush 21, 2) := by decide +kernel
theorem dX8_init_467 : decode cX8_init 467 = .ok (.iconst 0, 1) := by decide +kernel
theorem dX8_init_468 : decode cX8_init 468 = .ok (.iastore, 1) := by decide +kernel
theorem dX8_init_469 : decode cX8_init 469 = .ok (.dup, 1) := by decide +kernel
theorem dX8_init_470 : decode cX8_init 470 = .ok (.bipush 22, 2) := by decide +kernel
theorem dX8_init_472 : decode cX8_init 472 = .ok (.bipush 55, 2) := by decide +kernel
theorem dX8_init_474 : decode cX8_init 474 = .ok (.iastore, 1) := by decide +kernel
theorem dX8_init_475 : decode cX8_init 475 = .ok (.dup, 1) := by decide +kernel
theorem dX8_init_476 : decode cX8_init 476 = .ok (.bipush 23, 2) := by decide +kernel
theorem dX8_init_478 : decode cX8_init 478 = .ok (.bipush 9, 2) := by decide +kernel
theorem dX8_init_480 : decode cX8_init 480 = .ok (.iastore, 1) := by decide +kernel
theorem dX8_init_481 : decode cX8_init 481 = .ok (.dup, 1) := by decide +kernel
theorem dX8_init_482 : decode cX8_init 482 = .ok (.bipush 24, 2) := by decide +kernel
theorem dX8_init_484 : decode cX8_init 484 = .ok (.iconst 2, 1) := by decide +kernel
theorem dX8_init_485 : decode cX8_init 485 = .ok (.iastore, 1) := by decide +kernel
theorem dX8_init_486 : decode cX8_init 486 = .ok (.dup, 1) := by decide +kernel
theorem dX8_init_487 : decode cX8_init 487 = .ok (.bipush 25, 2) := by decide +kernel
theorem dX8_init_489 : decode cX8_init 489 = .ok (.iconst 2, 1) := by decide +kernel
theorem dX8_init_490 : decode cX8_init 490 = .ok (.iastore, 1) := by decide +kernel
theorem dX8_init_491 : decode cX8_init 491 = .ok (.dup, 1) := by decide +kernel
theorem dX8_init_492 : decode cX8_init 492 = .ok (.bipush 26, 2) := by decide +kernel
theorem dX8_init_494 : decode cX8_init 494 = .ok (.bipush (-4), 2) := by decide +kernel
theorem dX8_init_496 : decode cX8_init 496 = .ok (.iastore, 1) := by decide +kernel
theorem dX8_init_497 : decode cX8_init 497 = .ok (.dup, 1) := by decide +kernel
theorem dX8_init_498 : decode cX8_init 498 = .ok (.bipush 27, 2) := by decide +kernel
theorem dX8_init_500 : decode cX8_init 500 = .ok (.iconst 4, 1) := by decide +kernel
theorem dX8_init_501 : decode cX8_init 501 = .ok (.iastore, 1) := by decide +kernel
theorem dX8_init_502 : decode cX8_init 502 = .ok (.dup, 1) := by decide +kernel
theorem dX8_init_503 : decode cX8_init 503 = .ok (.bipush 28, 2) := by decide +kernel
theorem dX8_init_505 : decode cX8_init 505 = .ok (.bipush 6, 2) := by decide +kernel
theorem dX8_init_507 : decode cX8_init 507 = .ok (.iastore, 1) := by decide +kernel
theorem dX8_init_508 : decode cX8_init 508 = .ok (.dup, 1) := by decide +kernel
theorem dX8_init_509 : decode cX8_init 509 = .ok (.bipush 29, 2) := by decide +kernel
theorem dX8_init_511 : decode cX8_init 511 = .ok (.iconst 2, 1) := by decide +kernel
theorem dX8_init_512 : decode cX8_init 512 = .ok (.iastore, 1) := by decide +kernel
theorem dX8_init_513 : decode cX8_init 513 = .ok (.dup, 1) := by decide +kernel
theorem dX8_init_514 : decode cX8_init 514 = .ok (.bipush 30, 2) := by decide +kernel
theorem dX8_init_516 : decode cX8_init 516 = .ok (.iconst 3, 1) := by decide +kernel
theorem dX8_init_517 : decode cX8_init 517 = .ok (.iastore, 1) := by decide +kernel
theorem dX8_init_518 : decode cX8_init 518 = .ok (.dup, 1) := by decide +kernel
theorem dX8_init_519 : decode cX8_init 519 = .ok (.bipush 31, 2) := by decide +kernel
theorem dX8_init_521 : decode cX8_init 521 = .ok (.iconst 0, 1) := by decide +kernel
theorem dX8_init_522 : decode cX8_init 522 = .ok (.iastore, 1) := by decide +kernel
theorem dX8_init_523 : decode cX8_init 523 = .ok (.dup, 1) := by decide +kernel
theorem dX8_init_524 : decode cX8_init 524 = .ok (.bipush 32, 2) := by decide +kernel
theorem dX8_init_526 : decode cX8_init 526 = .ok (.iconst 0, 1) := by decide +kernel
theorem dX8_init_527 : decode cX8_init 527 = .ok (.iastore, 1) := by decide +kernel
theorem dX8_init_528 : decode cX8_init 528 = .ok (.putfield 61, 3) := by decide +kernel
theorem dX8_init_531 : decode cX8_init 531 = .ok (.aload_n 0, 1) := by decide +kernel
theorem dX8_init_532 : decode cX8_init 532 = .ok (.bipush 60, 2) := by decide +kernel
theorem dX8_init_534 : decode cX8_init 534 = .ok (.putfield 64, 3) := by decide +kernel
theorem dX8_init_537 : decode cX8_init 537 = .ok (.aload_n 0, 1) := by decide +kernel
theorem dX8_init_538 : decode cX8_init 538 = .ok (.iconst 1, 1) := by decide +kernel
theorem dX8_init_539 : decode cX8_init 539 = .ok (.putfield 68, 3) := by decide +kernel
theorem dX8_init_542 : decode cX8_init 542 = .ok (.aload_n 0, 1) := by decide +kernel
theorem dX8_init_543 : decode cX8_init 543 = .ok (.iconst 5, 1) := by decide +kernel
theorem dX8_init_544 : decode cX8_init 544 = .ok (.putfield 71, 3) := by decide +kernel
theorem dX8_init_547 : decode cX8_init 547 = .ok (.aload_n 0, 1) := by decide +kernel
theorem dX8_init_548 : decode cX8_init 548 = .ok (.iconst 5, 1) := by decide +kernel
theorem dX8_init_549 : decode cX8_init 549 = .ok (.putfield 74, 3) := by decide +kernel
theorem dX8_init_552 : decode cX8_init 552 = .ok (.iconst 0, 1) := by decide +kernel
theorem dX8_init_553 : decode cX8_init 553 = .ok (.istore_n 1, 1) := by decide +kernel
theorem dX8_init_554 : decode cX8_init 554 = .ok (.iload_n 1, 1) := by decide +kernel
theorem dX8_init_555 : decode cX8_init 555 = .ok (.bipush 15, 2) := by decide +kernel
theorem dX8_init_557 : decode cX8_init 557 = .ok (.if_icmp .ge 21, 3) := by decide +kernel
theorem dX8_init_560 : decode cX8_init 560 = .ok (.aload_n 0, 1) := by decide +kernel
theorem dX8_init_561 : decode cX8_init 561 = .ok (.getfield 13, 3) := by decide +kernel
theorem dX8_init_564 : decode cX8_init 564 = .ok (.iload_n 1, 1) := by decide +kernel
theorem dX8_init_565 : decode cX8_init 565 = .ok (.aload_n 0, 1) := by decide +kernel
theorem dX8_init_566 : decode cX8_init 566 = .ok (.getfield 55, 3) := by decide +kernel
theorem dX8_init_569 : decode cX8_init 569 = .ok (.iload_n 1, 1) := by decide +kernel
theorem dX8_init_570 : decode cX8_init 570 = .ok (.iaload, 1) := by decide +kernel
theorem dX8_init_571 : decode cX8_init 571 = .ok (.iastore, 1) := by decide +kernel
theorem dX8_init_572 : decode cX8_init 572 = .ok (.iinc 1 1, 3) := by decide +kernel
theorem dX8_init_575 : decode cX8_init 575 = .ok (.goto (-21), 3) := by decide +kernel
theorem dX8_init_578 : decode cX8_init 578 = .ok (.iconst 0, 1) := by decide +kernel
theorem dX8_init_579 : decode cX8_init 579 = .ok (.istore_n 1, 1) := by decide +kernel
theorem dX8_init_580 : decode cX8_init 580 = .ok (.iload_n 1, 1) := by decide +kernel
theorem dX8_init_581 : decode cX8_init 581 = .ok (.bipush 22, 2) := by decide +kernel
theorem dX8_init_583 : decode cX8_init 583 = .ok (.if_icmp .ge 21, 3) := by decide +kernel
theorem dX8_init_586 : decode cX8_init 586 = .ok (.aload_n 0, 1) := by decide +kernel
theorem dX8_init_587 : decode cX8_init 587 = .ok (.getfield 16, 3) := by decide +kernel
theorem dX8_init_590 : decode cX8_init 590 = .ok (.iload_n 1, 1) := by decide +kernel
theorem dX8_init_591 : decode cX8_init 591 = .ok (.aload_n 0, 1) := by decide +kernel
theorem dX8_init_592 : decode cX8_init 592 = .ok (.getfield 58, 3) := by decide +kernel
theorem dX8_init_595 : decode cX8_init 595 = .ok (.iload_n 1, 1) := by decide +kernel
theorem dX8_init_596 : decode cX8_init 596 = .ok (.iaload, 1) := by decide +kernel
theorem dX8_init_597 : decode cX8_init 597 = .ok (.iastore, 1) := by decide +kernel
theorem dX8_init_598 : decode cX8_init 598 = .ok (.iinc 1 1, 3) := by decide +kernel
theorem dX8_init_601 : decode cX8_init 601 = .ok (.goto (-21), 3) := by decide +kernel
theorem dX8_init_604 : decode cX8_init 604 = .ok (.iconst 0, 1) := by decide +kernel
theorem dX8_init_605 : decode cX8_init 605 = .ok (.istore_n 1, 1) := by decide +kernel
theorem dX8_init_606 : decode cX8_init 606 = .ok (.iload_n 1, 1) := by decide +kernel
theorem dX8_init_607 : decode cX8_init 607 = .ok (.bipush 33, 2) := by decide +kernel
theorem dX8_init_609 : decode cX8_init 609 = .ok (.if_icmp .ge 24, 3) := by decide +kernel
theorem dX8_init_612 : decode cX8_init 612 = .ok (.aload_n 0, 1) := by decide +kernel
theorem dX8_init_613 : decode cX8_init 613 = .ok (.getfield 16, 3) := by decide +kernel
theorem dX8_init_616 : decode cX8_init 616 = .ok (.bipush 22, 2) := by decide +kernel
theorem dX8_init_618 : decode cX8_init 618 = .ok (.iload_n 1, 1) := by decide +kernel
theorem dX8_init_619 : decode cX8_init 619 = .ok (.iadd, 1) := by decide +kernel
theorem dX8_init_620 : decode cX8_init 620 = .ok (.aload_n 0, 1) := by decide +kernel
theorem dX8_init_621 : decode cX8_init 621 = .ok (.getfield 61, 3) := by decide +kernel
theorem dX8_init_624 : decode cX8_init 624 = .ok (.iload_n 1, 1) := by decide +kernel
theorem dX8_init_625 : decode cX8_init 625 = .ok (.iaload, 1) := by decide +kernel
theorem dX8_init_626 : decode cX8_init 626 = .ok (.iastore, 1) := by decide +kernel
theorem dX8_init_627 : decode cX8_init 627 = .ok (.iinc 1 1, 3) := by decide +kernel
theorem dX8_init_630 : decode cX8_init 630 = .ok (.goto (-24), 3) := by decide +kernel
theorem dX8_init_633 : decode cX8_init 633 = .ok (.aload_n 0, 1) := by decide +kernel
theorem dX8_init_634 : decode cX8_init 634 = .ok (.invokevirtual 77, 3) := by decide +kernel
theorem dX8_init_637 : decode cX8_init 637 = .ok (.return_, 1) := by decide +kernel
theorem oiX8_1 : Cond.methodLink RX8 1 Lib.objectInit ∈ tb := (tb_mem (t_in4 (List.mem_of_getElem? (i := 103) (by decide +kernel))) (by decide +kernel))
theorem pfX8_7 : PF RX8 7 8 1 (tyX8 1) := ⟨_, _, _, tyX8, rfl, by decide, uwX8, (tb_mem (t_in4 (List.mem_of_getElem? (i := 109) (by decide +kernel))) (by decide +kernel)), rfl, rfl, tyX8_ok 1 (by decide), tyX8_ok, nmX8⟩
theorem pfX8_13 : PF RX8 13 8 5 (tyX8 5) := ⟨_, _, _, tyX8, rfl, by decide, uwX8, (tb_mem (t_in4 (List.mem_of_getElem? (i := 113) (by decide +kernel))) (by decide +kernel)), rfl, rfl, tyX8_ok 5 (by decide), tyX8_ok, nmX8⟩
theorem pfX8_16 : PF RX8 16 8 7 (tyX8 7) := ⟨_, _, _, tyX8, rfl, by decide, uwX8, (tb_mem (t_in4 (List.mem_of_getElem? (i := 115) (by decide +kernel))) (by decide +kernel)), rfl, rfl, tyX8_ok 7 (by decide), tyX8_ok, nmX8⟩
theorem pfX8_19 : PF RX8 19 8 8 (tyX8 8) := ⟨_, _, _, tyX8, rfl, by decide, uwX8, (tb_mem (t_in4 (List.mem_of_getElem? (i := 116) (by decide +kernel))) (by decide +kernel)), rfl, rfl, tyX8_ok 8 (by decide), tyX8_ok, nmX8⟩
theorem pfX8_22 : PF RX8 22 8 12 (tyX8 12) := ⟨_, _, _, tyX8, rfl, by decide, uwX8, (tb_mem (t_in4 (List.mem_of_getElem? (i := 120) (by decide +kernel))) (by decide +kernel)), rfl, rfl, tyX8_ok 12 (by decide), tyX8_ok, nmX8⟩
theorem pfX8_25 : PF RX8 25 8 14 (tyX8 14) := ⟨_, _, _, tyX8, rfl, by decide, uwX8, (tb_mem (t_in4 (List.mem_of_getElem? (i := 122) (by decide +kernel))) (by decide +kernel)), rfl, rfl, tyX8_ok 14 (by decide), tyX8_ok, nmX8⟩
theorem pfX8_28 : PF RX8 28 8 15 (tyX8 15) := ⟨_, _, _, tyX8, rfl, by decide, uwX8, (tb_mem (t_in4 (List.mem_of_getElem? (i := 123) (by decide +kernel))) (by decide +kernel)), rfl, rfl, tyX8_ok 15 (by decide), tyX8_ok, nmX8⟩
theorem pfX8_31 : PF RX8 31 8 16 (tyX8 16) := ⟨_, _, _, tyX8, rfl, by decide, uwX8, (tb_mem (t_in4 (List.mem_of_getElem? (i := 124) (by decide +kernel))) (by decide +kernel)), rfl, rfl, tyX8_ok 16 (by decide), tyX8_ok, nmX8⟩
theorem pfX8_34 : PF RX8 34 8 17 (tyX8 17) := ⟨_, _, _, tyX8, rfl, by decide, uwX8, (tb_mem (t_in4 (List.mem_of_getElem? (i := 125) (by decide +kernel))) (by decide +kernel)), rfl, rfl, tyX8_ok 17 (by decide), tyX8_ok, nmX8⟩
theorem pfX8_37 : PF RX8 37 8 18 (tyX8 18) := ⟨_, _, _, tyX8, rfl, by decide, uwX8, (tb_mem (t_in4 (List.mem_of_getElem? (i := 126) (by decide +kernel))) (by decide +kernel)), rfl, rfl, tyX8_ok 18 (by decide), tyX8_ok, nmX8⟩
theorem pfX8_40 : PF RX8 40 8 19 (tyX8 19) := ⟨_, _, _, tyX8, rfl, by decide, uwX8, (tb_mem (t_in4 (List.mem_of_getElem? (i := 127) (by decide +kernel))) (by decide +kernel)), rfl, rfl, tyX8_ok 19 (by decide), tyX8_ok, nmX8⟩
theorem pfX8_43 : PF RX8 43 8 20 (tyX8 20) := ⟨_, _, _, tyX8, rfl, by decide, uwX8, (tb_mem (t_in4 (List.mem_of_getElem? (i := 128) (by decide +kernel))) (by decide +kernel)), rfl, rfl, tyX8_ok 20 (by decide), tyX8_ok, nmX8⟩
theorem pfX8_46 : PF RX8 46 8 21 (tyX8 21) := ⟨_, _, _, tyX8, rfl, by decide, uwX8, (tb_mem (t_in4 (List.mem_of_getElem? (i := 129) (by decide +kernel))) (by decide +kernel)), rfl, rfl, tyX8_ok 21 (by decide), tyX8_ok, nmX8⟩
theorem pfX8_49 : PF RX8 49 8 22 (tyX8 22) := ⟨_, _, _, tyX8, rfl, by decide, uwX8, (tb_mem (t_in4 (List.mem_of_getElem? (i := 130) (by decide +kernel))) (by decide +kernel)), rfl, rfl, tyX8_ok 22 (by decide), tyX8_ok, nmX8⟩
theorem pfX8_52 : PF RX8 52 8 23 (tyX8 23) := ⟨_, _, _, tyX8, rfl, by decide, uwX8, (tb_mem (t_in4 (List.mem_of_getElem? (i := 131) (by decide +kernel))) (by decide +kernel)), rfl, rfl, tyX8_ok 23 (by decide), tyX8_ok, nmX8⟩
theorem pfX8_55 : PF RX8 55 8 24 (tyX8 24) := ⟨_, _, _, tyX8, rfl, by decide, uwX8, (tb_mem (t_in4 (List.mem_of_getElem? (i := 132) (by decide +kernel))) (by decide +kernel)), rfl, rfl, tyX8_ok 24 (by decide), tyX8_ok, nmX8⟩
theorem pfX8_58 : PF RX8 58 8 25 (tyX8 25) := ⟨_, _, _, tyX8, rfl, by decide, uwX8, (tb_mem (t_in4 (List.mem_of_getElem? (i := 133) (by decide +kernel))) (by decide +kernel)), rfl, rfl, tyX8_ok 25 (by decide), tyX8_ok, nmX8⟩
theorem pfX8_61 : PF RX8 61 8 26 (tyX8 26) := ⟨_, _, _, tyX8, rfl, by decide, uwX8, (tb_mem (t_in4 (List.mem_of_getElem? (i := 134) (by decide +kernel))) (by decide +kernel)), rfl, rfl, tyX8_ok 26 (by decide), tyX8_ok, nmX8⟩
abbrev rmX8_init : Room := { frames := 1, cells := 18, slots := 13591, locals := 21 }
abbrev ml33 : List Int32 := [2, 1, 3, 1]
set_option maxHeartbeats 4000000 in
set_option maxRecDepth 100000 in
theorem mi33 {κ : Kg} {n z q : Nat} {wr : va_W} {lv : List (Nat × Value)} {st : List Value} (C : Cg κ RX8 cX8_init 2 none rmX8_init) (k : G κ 2 n z (LW κ (wr ++ [(q, fA κ.2.2.2.1 4 (lA ml33 4))])) 49 lv (.ref q :: st)) : G κ 2 n z (LW κ (wr ++ [(q, iA κ.2.2.2.1 4)])) 33 lv (.ref q :: st) := by
  refine g_lA0 (l := ml33) ?_
  refine g_dup C rfl dX8_init_33 ?_
  refine g_iconst C dX8_init_34 (v := 0) (by decide) ?_
  refine g_iconst C dX8_init_35 (v := 2) (by decide) ?_
  refine g_iastE C dX8_init_36 (k := 0) (by decide) (vp_in_iff.mpr ⟨by decide +kernel, by decide +kernel⟩) (by decide) ?_
  refine g_dup C rfl dX8_init_37 ?_
  refine g_iconst C dX8_init_38 (v := 1) (by decide) ?_
  refine g_iconst C dX8_init_39 (v := 1) (by decide) ?_
  refine g_iastE C dX8_init_40 (k := 1) (by decide) (vp_in_iff.mpr ⟨by decide +kernel, by decide +kernel⟩) (by decide) ?_
  refine g_dup C rfl dX8_init_41 ?_
  refine g_iconst C dX8_init_42 (v := 2) (by decide) ?_
  refine g_iconst C dX8_init_43 (v := 3) (by decide) ?_
  refine g_iastE C dX8_init_44 (k := 2) (by decide) (vp_in_iff.mpr ⟨by decide +kernel, by decide +kernel⟩) (by decide) ?_
  refine g_dup C rfl dX8_init_45 ?_
  refine g_iconst C dX8_init_46 (v := 3) (by decide) ?_
  refine g_iconst C dX8_init_47 (v := 1) (by decide) ?_
  refine g_iastE C dX8_init_48 (k := 3) (by decide) (vp_in_iff.mpr ⟨by decide +kernel, by decide +kernel⟩) (by decide) ?_
  exact k
abbrev ml146 : List Int32 := [0, 0, 6, 0, 14, 20, 1, 20, 28, 0, 33, 40, 2, 44, 50]
set_option maxHeartbeats 4000000 in
set_option maxRecDepth 100000 in
theorem mi146 {κ : Kg} {n z q : Nat} {wr : va_W} {lv : List (Nat × Value)} {st : List Value} (C : Cg κ RX8 cX8_init 2 none rmX8_init) (k : G κ 2 n z (LW κ (wr ++ [(q, fA κ.2.2.2.1 15 (lA ml146 15))])) 224 lv (.ref q :: st)) : G κ 2 n z (LW κ (wr ++ [(q, iA κ.2.2.2.1 15)])) 146 lv (.ref q :: st) := by
  refine g_lA0 (l := ml146) ?_
  refine g_dup C rfl dX8_init_146 ?_
  refine g_iconst C dX8_init_147 (v := 0) (by decide) ?_
  refine g_iconst C dX8_init_148 (v := 0) (by decide) ?_
  refine g_iastE C dX8_init_149 (k := 0) (by decide) (vp_in_iff.mpr ⟨by decide +kernel, by decide +kernel⟩) (by decide) ?_
  refine g_dup C rfl dX8_init_150 ?_
  refine g_iconst C dX8_init_151 (v := 1) (by decide) ?_
  refine g_iconst C dX8_init_152 (v := 0) (by decide) ?_
  refine g_iastE C dX8_init_153 (k := 1) (by decide) (vp_in_iff.mpr ⟨by decide +kernel, by decide +kernel⟩) (by decide) ?_
  refine g_dup C rfl dX8_init_154 ?_
  refine g_iconst C dX8_init_155 (v := 2) (by decide) ?_
  refine g_bipush C dX8_init_156 (v := 6) (by decide) ?_
  refine g_iastE C dX8_init_158 (k := 2) (by decide) (vp_in_iff.mpr ⟨by decide +kernel, by decide +kernel⟩) (by decide) ?_
  refine g_dup C rfl dX8_init_159 ?_
  refine g_iconst C dX8_init_160 (v := 3) (by decide) ?_
  refine g_iconst C dX8_init_161 (v := 0) (by decide) ?_
  refine g_iastE C dX8_init_162 (k := 3) (by decide) (vp_in_iff.mpr ⟨by decide +kernel, by decide +kernel⟩) (by decide) ?_
  refine g_dup C rfl dX8_init_163 ?_
  refine g_iconst C dX8_init_164 (v := 4) (by decide) ?_
  refine g_bipush C dX8_init_165 (v := 14) (by decide) ?_
  refine g_iastE C dX8_init_167 (k := 4) (by decide) (vp_in_iff.mpr ⟨by decide +kernel, by decide +kernel⟩) (by decide) ?_
  refine g_dup C rfl dX8_init_168 ?_
  refine g_iconst C dX8_init_169 (v := 5) (by decide) ?_
  refine g_bipush C dX8_init_170 (v := 20) (by decide) ?_
  refine g_iastE C dX8_init_172 (k := 5) (by decide) (vp_in_iff.mpr ⟨by decide +kernel, by decide +kernel⟩) (by decide) ?_
  refine g_dup C rfl dX8_init_173 ?_
  refine g_bipush C dX8_init_174 (v := 6) (by decide) ?_
  refine g_iconst C dX8_init_176 (v := 1) (by decide) ?_
  refine g_iastE C dX8_init_177 (k := 6) (by decide) (vp_in_iff.mpr ⟨by decide +kernel, by decide +kernel⟩) (by decide) ?_
  refine g_dup C rfl dX8_init_178 ?_
  refine g_bipush C dX8_init_179 (v := 7) (by decide) ?_
  refine g_bipush C dX8_init_181 (v := 20) (by decide) ?_
  refine g_iastE C dX8_init_183 (k := 7) (by decide) (vp_in_iff.mpr ⟨by decide +kernel, by decide +kernel⟩) (by decide) ?_
  refine g_dup C rfl dX8_init_184 ?_
  refine g_bipush C dX8_init_185 (v := 8) (by decide) ?_
  refine g_bipush C dX8_init_187 (v := 28) (by decide) ?_
  refine g_iastE C dX8_init_189 (k := 8) (by decide) (vp_in_iff.mpr ⟨by decide +kernel, by decide +kernel⟩) (by decide) ?_
  refine g_dup C rfl dX8_init_190 ?_
  refine g_bipush C dX8_init_191 (v := 9) (by decide) ?_
  refine g_iconst C dX8_init_193 (v := 0) (by decide) ?_
  refine g_iastE C dX8_init_194 (k := 9) (by decide) (vp_in_iff.mpr ⟨by decide +kernel, by decide +kernel⟩) (by decide) ?_
  refine g_dup C rfl dX8_init_195 ?_
  refine g_bipush C dX8_init_196 (v := 10) (by decide) ?_
  refine g_bipush C dX8_init_198 (v := 33) (by decide) ?_
  refine g_iastE C dX8_init_200 (k := 10) (by decide) (vp_in_iff.mpr ⟨by decide +kernel, by decide +kernel⟩) (by decide) ?_
  refine g_dup C rfl dX8_init_201 ?_
  refine g_bipush C dX8_init_202 (v := 11) (by decide) ?_
  refine g_bipush C dX8_init_204 (v := 40) (by decide) ?_
  refine g_iastE C dX8_init_206 (k := 11) (by decide) (vp_in_iff.mpr ⟨by decide +kernel, by decide +kernel⟩) (by decide) ?_
  refine g_dup C rfl dX8_init_207 ?_
  refine g_bipush C dX8_init_208 (v := 12) (by decide) ?_
  refine g_iconst C dX8_init_210 (v := 2) (by decide) ?_
  refine g_iastE C dX8_init_211 (k := 12) (by decide) (vp_in_iff.mpr ⟨by decide +kernel, by decide +kernel⟩) (by decide) ?_
  refine g_dup C rfl dX8_init_212 ?_
  refine g_bipush C dX8_init_213 (v := 13) (by decide) ?_
  refine g_bipush C dX8_init_215 (v := 44) (by decide) ?_
  refine g_iastE C dX8_init_217 (k := 13) (by decide) (vp_in_iff.mpr ⟨by decide +kernel, by decide +kernel⟩) (by decide) ?_
  refine g_dup C rfl dX8_init_218 ?_
  refine g_bipush C dX8_init_219 (v := 14) (by decide) ?_
  refine g_bipush C dX8_init_221 (v := 50) (by decide) ?_
  refine g_iastE C dX8_init_223 (k := 14) (by decide) (vp_in_iff.mpr ⟨by decide +kernel, by decide +kernel⟩) (by decide) ?_
  exact k
abbrev ml232 : List Int32 := [8, 4, 4, 2, -4, 6, 9, 3, 5, 0, 0, 18, 6, 8, 2, -4, 7, 12, 4, 7, 0, 0]
set_option maxHeartbeats 4000000 in
set_option maxRecDepth 100000 in
theorem mi232 {κ : Kg} {n z q : Nat} {wr : va_W} {lv : List (Nat × Value)} {st : List Value} (C : Cg κ RX8 cX8_init 2 none rmX8_init) (k : G κ 2 n z (LW κ (wr ++ [(q, fA κ.2.2.2.1 22 (lA ml232 22))])) 347 lv (.ref q :: st)) : G κ 2 n z (LW κ (wr ++ [(q, iA κ.2.2.2.1 22)])) 232 lv (.ref q :: st) := by
  refine g_lA0 (l := ml232) ?_
  refine g_dup C rfl dX8_init_232 ?_
  refine g_iconst C dX8_init_233 (v := 0) (by decide) ?_
  refine g_bipush C dX8_init_234 (v := 8) (by decide) ?_
  refine g_iastE C dX8_init_236 (k := 0) (by decide) (vp_in_iff.mpr ⟨by decide +kernel, by decide +kernel⟩) (by decide) ?_
  refine g_dup C rfl dX8_init_237 ?_
  refine g_iconst C dX8_init_238 (v := 1) (by decide) ?_
  refine g_iconst C dX8_init_239 (v := 4) (by decide) ?_
  refine g_iastE C dX8_init_240 (k := 1) (by decide) (vp_in_iff.mpr ⟨by decide +kernel, by decide +kernel⟩) (by decide) ?_
  refine g_dup C rfl dX8_init_241 ?_
  refine g_iconst C dX8_init_242 (v := 2) (by decide) ?_
  refine g_iconst C dX8_init_243 (v := 4) (by decide) ?_
  refine g_iastE C dX8_init_244 (k := 2) (by decide) (vp_in_iff.mpr ⟨by decide +kernel, by decide +kernel⟩) (by decide) ?_
  refine g_dup C rfl dX8_init_245 ?_
  refine g_iconst C dX8_init_246 (v := 3) (by decide) ?_
  refine g_iconst C dX8_init_247 (v := 2) (by decide) ?_
  refine g_iastE C dX8_init_248 (k := 3) (by decide) (vp_in_iff.mpr ⟨by decide +kernel, by decide +kernel⟩) (by decide) ?_
  refine g_dup C rfl dX8_init_249 ?_
  refine g_iconst C dX8_init_250 (v := 4) (by decide) ?_
  refine g_bipush C dX8_init_251 (v := -4) (by decide) ?_
  refine g_iastE C dX8_init_253 (k := 4) (by decide) (vp_in_iff.mpr ⟨by decide +kernel, by decide +kernel⟩) (by decide) ?_
  refine g_dup C rfl dX8_init_254 ?_
  refine g_iconst C dX8_init_255 (v := 5) (by decide) ?_
  refine g_bipush C dX8_init_256 (v := 6) (by decide) ?_
  refine g_iastE C dX8_init_258 (k := 5) (by decide) (vp_in_iff.mpr ⟨by decide +kernel, by decide +kernel⟩) (by decide) ?_
  refine g_dup C rfl dX8_init_259 ?_
  refine g_bipush C dX8_init_260 (v := 6) (by decide) ?_
  refine g_bipush C dX8_init_262 (v := 9) (by decide) ?_
  refine g_iastE C dX8_init_264 (k := 6) (by decide) (vp_in_iff.mpr ⟨by decide +kernel, by decide +kernel⟩) (by decide) ?_
  refine g_dup C rfl dX8_init_265 ?_
  refine g_bipush C dX8_init_266 (v := 7) (by decide) ?_
  refine g_iconst C dX8_init_268 (v := 3) (by decide) ?_
  refine g_iastE C dX8_init_269 (k := 7) (by decide) (vp_in_iff.mpr ⟨by decide +kernel, by decide +kernel⟩) (by decide) ?_
  refine g_dup C rfl dX8_init_270 ?_
  refine g_bipush C dX8_init_271 (v := 8) (by decide) ?_
  refine g_iconst C dX8_init_273 (v := 5) (by decide) ?_
  refine g_iastE C dX8_init_274 (k := 8) (by decide) (vp_in_iff.mpr ⟨by decide +kernel, by decide +kernel⟩) (by decide) ?_
  refine g_dup C rfl dX8_init_275 ?_
  refine g_bipush C dX8_init_276 (v := 9) (by decide) ?_
  refine g_iconst C dX8_init_278 (v := 0) (by decide) ?_
  refine g_iastE C dX8_init_279 (k := 9) (by decide) (vp_in_iff.mpr ⟨by decide +kernel, by decide +kernel⟩) (by decide) ?_
  refine g_dup C rfl dX8_init_280 ?_
  refine g_bipush C dX8_init_281 (v := 10) (by decide) ?_
  refine g_iconst C dX8_init_283 (v := 0) (by decide) ?_
  refine g_iastE C dX8_init_284 (k := 10) (by decide) (vp_in_iff.mpr ⟨by decide +kernel, by decide +kernel⟩) (by decide) ?_
  refine g_dup C rfl dX8_init_285 ?_
  refine g_bipush C dX8_init_286 (v := 11) (by decide) ?_
  refine g_bipush C dX8_init_288 (v := 18) (by decide) ?_
  refine g_iastE C dX8_init_290 (k := 11) (by decide) (vp_in_iff.mpr ⟨by decide +kernel, by decide +kernel⟩) (by decide) ?_
  refine g_dup C rfl dX8_init_291 ?_
  refine g_bipush C dX8_init_292 (v := 12) (by decide) ?_
  refine g_bipush C dX8_init_294 (v := 6) (by decide) ?_
  refine g_iastE C dX8_init_296 (k := 12) (by decide) (vp_in_iff.mpr ⟨by decide +kernel, by decide +kernel⟩) (by decide) ?_
  refine g_dup C rfl dX8_init_297 ?_
  refine g_bipush C dX8_init_298 (v := 13) (by decide) ?_
  refine g_bipush C dX8_init_300 (v := 8) (by decide) ?_
  refine g_iastE C dX8_init_302 (k := 13) (by decide) (vp_in_iff.mpr ⟨by decide +kernel, by decide +kernel⟩) (by decide) ?_
  refine g_dup C rfl dX8_init_303 ?_
  refine g_bipush C dX8_init_304 (v := 14) (by decide) ?_
  refine g_iconst C dX8_init_306 (v := 2) (by decide) ?_
  refine g_iastE C dX8_init_307 (k := 14) (by decide) (vp_in_iff.mpr ⟨by decide +kernel, by decide +kernel⟩) (by decide) ?_
  refine g_dup C rfl dX8_init_308 ?_
  refine g_bipush C dX8_init_309 (v := 15) (by decide) ?_
  refine g_bipush C dX8_init_311 (v := -4) (by decide) ?_
  refine g_iastE C dX8_init_313 (k := 15) (by decide) (vp_in_iff.mpr ⟨by decide +kernel, by decide +kernel⟩) (by decide) ?_
  refine g_dup C rfl dX8_init_314 ?_
  refine g_bipush C dX8_init_315 (v := 16) (by decide) ?_
  refine g_bipush C dX8_init_317 (v := 7) (by decide) ?_
  refine g_iastE C dX8_init_319 (k := 16) (by decide) (vp_in_iff.mpr ⟨by decide +kernel, by decide +kernel⟩) (by decide) ?_
  refine g_dup C rfl dX8_init_320 ?_
  refine g_bipush C dX8_init_321 (v := 17) (by decide) ?_
  refine g_bipush C dX8_init_323 (v := 12) (by decide) ?_
  refine g_iastE C dX8_init_325 (k := 17) (by decide) (vp_in_iff.mpr ⟨by decide +kernel, by decide +kernel⟩) (by decide) ?_
  refine g_dup C rfl dX8_init_326 ?_
  refine g_bipush C dX8_init_327 (v := 18) (by decide) ?_
  refine g_iconst C dX8_init_329 (v := 4) (by decide) ?_
  refine g_iastE C dX8_init_330 (k := 18) (by decide) (vp_in_iff.mpr ⟨by decide +kernel, by decide +kernel⟩) (by decide) ?_
  refine g_dup C rfl dX8_init_331 ?_
  refine g_bipush C dX8_init_332 (v := 19) (by decide) ?_
  refine g_bipush C dX8_init_334 (v := 7) (by decide) ?_
  refine g_iastE C dX8_init_336 (k := 19) (by decide) (vp_in_iff.mpr ⟨by decide +kernel, by decide +kernel⟩) (by decide) ?_
  refine g_dup C rfl dX8_init_337 ?_
  refine g_bipush C dX8_init_338 (v := 20) (by decide) ?_
  refine g_iconst C dX8_init_340 (v := 0) (by decide) ?_
  refine g_iastE C dX8_init_341 (k := 20) (by decide) (vp_in_iff.mpr ⟨by decide +kernel, by decide +kernel⟩) (by decide) ?_
  refine g_dup C rfl dX8_init_342 ?_
  refine g_bipush C dX8_init_343 (v := 21) (by decide) ?_
  refine g_iconst C dX8_init_345 (v := 0) (by decide) ?_
  refine g_iastE C dX8_init_346 (k := 21) (by decide) (vp_in_iff.mpr ⟨by decide +kernel, by decide +kernel⟩) (by decide) ?_
  exact k
abbrev ml355 : List Int32 := [30, 9, 5, 3, 1, 8, 20, 5, 12, 2, 6, 42, 3, 9, 1, -4, 5, 8, 0, 0, 0, 0, 55, 9, 2, 2, -4, 4, 6, 2, 3, 0, 0]
set_option maxHeartbeats 4000000 in
set_option maxRecDepth 100000 in
theorem mi355 {κ : Kg} {n z q : Nat} {wr : va_W} {lv : List (Nat × Value)} {st : List Value} (C : Cg κ RX8 cX8_init 2 none rmX8_init) (k : G κ 2 n z (LW κ (wr ++ [(q, fA κ.2.2.2.1 33 (lA ml355 33))])) 528 lv (.ref q :: st)) : G κ 2 n z (LW κ (wr ++ [(q, iA κ.2.2.2.1 33)])) 355 lv (.ref q :: st) := by
  refine g_lA0 (l := ml355) ?_
  refine g_dup C rfl dX8_init_355 ?_
  refine g_iconst C dX8_init_356 (v := 0) (by decide) ?_
  refine g_bipush C dX8_init_357 (v := 30) (by decide) ?_
  refine g_iastE C dX8_init_359 (k := 0) (by decide) (vp_in_iff.mpr ⟨by decide +kernel, by decide +kernel⟩) (by decide) ?_
  refine g_dup C rfl dX8_init_360 ?_
  refine g_iconst C dX8_init_361 (v := 1) (by decide) ?_
  refine g_bipush C dX8_init_362 (v := 9) (by decide) ?_
  refine g_iastE C dX8_init_364 (k := 1) (by decide) (vp_in_iff.mpr ⟨by decide +kernel, by decide +kernel⟩) (by decide) ?_
  refine g_dup C rfl dX8_init_365 ?_
  refine g_iconst C dX8_init_366 (v := 2) (by decide) ?_
  refine g_iconst C dX8_init_367 (v := 5) (by decide) ?_
  refine g_iastE C dX8_init_368 (k := 2) (by decide) (vp_in_iff.mpr ⟨by decide +kernel, by decide +kernel⟩) (by decide) ?_
  refine g_dup C rfl dX8_init_369 ?_
  refine g_iconst C dX8_init_370 (v := 3) (by decide) ?_
  refine g_iconst C dX8_init_371 (v := 3) (by decide) ?_
  refine g_iastE C dX8_init_372 (k := 3) (by decide) (vp_in_iff.mpr ⟨by decide +kernel, by decide +kernel⟩) (by decide) ?_
  refine g_dup C rfl dX8_init_373 ?_
  refine g_iconst C dX8_init_374 (v := 4) (by decide) ?_
  refine g_iconst C dX8_init_375 (v := 1) (by decide) ?_
  refine g_iastE C dX8_init_376 (k := 4) (by decide) (vp_in_iff.mpr ⟨by decide +kernel, by decide +kernel⟩) (by decide) ?_
  refine g_dup C rfl dX8_init_377 ?_
  refine g_iconst C dX8_init_378 (v := 5) (by decide) ?_
  refine g_bipush C dX8_init_379 (v := 8) (by decide) ?_
  refine g_iastE C dX8_init_381 (k := 5) (by decide) (vp_in_iff.mpr ⟨by decide +kernel, by decide +kernel⟩) (by decide) ?_
  refine g_dup C rfl dX8_init_382 ?_
  refine g_bipush C dX8_init_383 (v := 6) (by decide) ?_
  refine g_bipush C dX8_init_385 (v := 20) (by decide) ?_
  refine g_iastE C dX8_init_387 (k := 6) (by decide) (vp_in_iff.mpr ⟨by decide +kernel, by decide +kernel⟩) (by decide) ?_
  refine g_dup C rfl dX8_init_388 ?_
  refine g_bipush C dX8_init_389 (v := 7) (by decide) ?_
  refine g_iconst C dX8_init_391 (v := 5) (by decide) ?_
  refine g_iastE C dX8_init_392 (k := 7) (by decide) (vp_in_iff.mpr ⟨by decide +kernel, by decide +kernel⟩) (by decide) ?_
  refine g_dup C rfl dX8_init_393 ?_
  refine g_bipush C dX8_init_394 (v := 8) (by decide) ?_
  refine g_bipush C dX8_init_396 (v := 12) (by decide) ?_
  refine g_iastE C dX8_init_398 (k := 8) (by decide) (vp_in_iff.mpr ⟨by decide +kernel, by decide +kernel⟩) (by decide) ?_
  refine g_dup C rfl dX8_init_399 ?_
  refine g_bipush C dX8_init_400 (v := 9) (by decide) ?_
  refine g_iconst C dX8_init_402 (v := 2) (by decide) ?_
  refine g_iastE C dX8_init_403 (k := 9) (by decide) (vp_in_iff.mpr ⟨by decide +kernel, by decide +kernel⟩) (by decide) ?_
  refine g_dup C rfl dX8_init_404 ?_
  refine g_bipush C dX8_init_405 (v := 10) (by decide) ?_
  refine g_bipush C dX8_init_407 (v := 6) (by decide) ?_
  refine g_iastE C dX8_init_409 (k := 10) (by decide) (vp_in_iff.mpr ⟨by decide +kernel, by decide +kernel⟩) (by decide) ?_
  refine g_dup C rfl dX8_init_410 ?_
  refine g_bipush C dX8_init_411 (v := 11) (by decide) ?_
  refine g_bipush C dX8_init_413 (v := 42) (by decide) ?_
  refine g_iastE C dX8_init_415 (k := 11) (by decide) (vp_in_iff.mpr ⟨by decide +kernel, by decide +kernel⟩) (by decide) ?_
  refine g_dup C rfl dX8_init_416 ?_
  refine g_bipush C dX8_init_417 (v := 12) (by decide) ?_
  refine g_iconst C dX8_init_419 (v := 3) (by decide) ?_
  refine g_iastE C dX8_init_420 (k := 12) (by decide) (vp_in_iff.mpr ⟨by decide +kernel, by decide +kernel⟩) (by decide) ?_
  refine g_dup C rfl dX8_init_421 ?_
  refine g_bipush C dX8_init_422 (v := 13) (by decide) ?_
  refine g_bipush C dX8_init_424 (v := 9) (by decide) ?_
  refine g_iastE C dX8_init_426 (k := 13) (by decide) (vp_in_iff.mpr ⟨by decide +kernel, by decide +kernel⟩) (by decide) ?_
  refine g_dup C rfl dX8_init_427 ?_
  refine g_bipush C dX8_init_428 (v := 14) (by decide) ?_
  refine g_iconst C dX8_init_430 (v := 1) (by decide) ?_
  refine g_iastE C dX8_init_431 (k := 14) (by decide) (vp_in_iff.mpr ⟨by decide +kernel, by decide +kernel⟩) (by decide) ?_
  refine g_dup C rfl dX8_init_432 ?_
  refine g_bipush C dX8_init_433 (v := 15) (by decide) ?_
  refine g_bipush C dX8_init_435 (v := -4) (by decide) ?_
  refine g_iastE C dX8_init_437 (k := 15) (by decide) (vp_in_iff.mpr ⟨by decide +kernel, by decide +kernel⟩) (by decide) ?_
  refine g_dup C rfl dX8_init_438 ?_
  refine g_bipush C dX8_init_439 (v := 16) (by decide) ?_
  refine g_iconst C dX8_init_441 (v := 5) (by decide) ?_
  refine g_iastE C dX8_init_442 (k := 16) (by decide) (vp_in_iff.mpr ⟨by decide +kernel, by decide +kernel⟩) (by decide) ?_
  refine g_dup C rfl dX8_init_443 ?_
  refine g_bipush C dX8_init_444 (v := 17) (by decide) ?_
  refine g_bipush C dX8_init_446 (v := 8) (by decide) ?_
  refine g_iastE C dX8_init_448 (k := 17) (by decide) (vp_in_iff.mpr ⟨by decide +kernel, by decide +kernel⟩) (by decide) ?_
  refine g_dup C rfl dX8_init_449 ?_
  refine g_bipush C dX8_init_450 (v := 18) (by decide) ?_
  refine g_iconst C dX8_init_452 (v := 0) (by decide) ?_
  refine g_iastE C dX8_init_453 (k := 18) (by decide) (vp_in_iff.mpr ⟨by decide +kernel, by decide +kernel⟩) (by decide) ?_
  refine g_dup C rfl dX8_init_454 ?_
  refine g_bipush C dX8_init_455 (v := 19) (by decide) ?_
  refine g_iconst C dX8_init_457 (v := 0) (by decide) ?_
  refine g_iastE C dX8_init_458 (k := 19) (by decide) (vp_in_iff.mpr ⟨by decide +kernel, by decide +kernel⟩) (by decide) ?_
  refine g_dup C rfl dX8_init_459 ?_
  refine g_bipush C dX8_init_460 (v := 20) (by decide) ?_
  refine g_iconst C dX8_init_462 (v := 0) (by decide) ?_
  refine g_iastE C dX8_init_463 (k := 20) (by decide) (vp_in_iff.mpr ⟨by decide +kernel, by decide +kernel⟩) (by decide) ?_
  refine g_dup C rfl dX8_init_464 ?_
  refine g_bipush C dX8_init_465 (v := 21) (by decide) ?_
  refine g_iconst C dX8_init_467 (v := 0) (by decide) ?_
  refine g_iastE C dX8_init_468 (k := 21) (by decide) (vp_in_iff.mpr ⟨by decide +kernel, by decide +kernel⟩) (by decide) ?_
  refine g_dup C rfl dX8_init_469 ?_
  refine g_bipush C dX8_init_470 (v := 22) (by decide) ?_
  refine g_bipush C dX8_init_472 (v := 55) (by decide) ?_
  refine g_iastE C dX8_init_474 (k := 22) (by decide) (vp_in_iff.mpr ⟨by decide +kernel, by decide +kernel⟩) (by decide) ?_
  refine g_dup C rfl dX8_init_475 ?_
  refine g_bipush C dX8_init_476 (v := 23) (by decide) ?_
  refine g_bipush C dX8_init_478 (v := 9) (by decide) ?_
  refine g_iastE C dX8_init_480 (k := 23) (by decide) (vp_in_iff.mpr ⟨by decide +kernel, by decide +kernel⟩) (by decide) ?_
  refine g_dup C rfl dX8_init_481 ?_
  refine g_bipush C dX8_init_482 (v := 24) (by decide) ?_
  refine g_iconst C dX8_init_484 (v := 2) (by decide) ?_
  refine g_iastE C dX8_init_485 (k := 24) (by decide) (vp_in_iff.mpr ⟨by decide +kernel, by decide +kernel⟩) (by decide) ?_
  refine g_dup C rfl dX8_init_486 ?_
  refine g_bipush C dX8_init_487 (v := 25) (by decide) ?_
  refine g_iconst C dX8_init_489 (v := 2) (by decide) ?_
  refine g_iastE C dX8_init_490 (k := 25) (by decide) (vp_in_iff.mpr ⟨by decide +kernel, by decide +kernel⟩) (by decide) ?_
  refine g_dup C rfl dX8_init_491 ?_
  refine g_bipush C dX8_init_492 (v := 26) (by decide) ?_
  refine g_bipush C dX8_init_494 (v := -4) (by decide) ?_
  refine g_iastE C dX8_init_496 (k := 26) (by decide) (vp_in_iff.mpr ⟨by decide +kernel, by decide +kernel⟩) (by decide) ?_
  refine g_dup C rfl dX8_init_497 ?_
  refine g_bipush C dX8_init_498 (v := 27) (by decide) ?_
  refine g_iconst C dX8_init_500 (v := 4) (by decide) ?_
  refine g_iastE C dX8_init_501 (k := 27) (by decide) (vp_in_iff.mpr ⟨by decide +kernel, by decide +kernel⟩) (by decide) ?_
  refine g_dup C rfl dX8_init_502 ?_
  refine g_bipush C dX8_init_503 (v := 28) (by decide) ?_
  refine g_bipush C dX8_init_505 (v := 6) (by decide) ?_
  refine g_iastE C dX8_init_507 (k := 28) (by decide) (vp_in_iff.mpr ⟨by decide +kernel, by decide +kernel⟩) (by decide) ?_
  refine g_dup C rfl dX8_init_508 ?_
  refine g_bipush C dX8_init_509 (v := 29) (by decide) ?_
  refine g_iconst C dX8_init_511 (v := 2) (by decide) ?_
  refine g_iastE C dX8_init_512 (k := 29) (by decide) (vp_in_iff.mpr ⟨by decide +kernel, by decide +kernel⟩) (by decide) ?_
  refine g_dup C rfl dX8_init_513 ?_
  refine g_bipush C dX8_init_514 (v := 30) (by decide) ?_
  refine g_iconst C dX8_init_516 (v := 3) (by decide) ?_
  refine g_iastE C dX8_init_517 (k := 30) (by decide) (vp_in_iff.mpr ⟨by decide +kernel, by decide +kernel⟩) (by decide) ?_
  refine g_dup C rfl dX8_init_518 ?_
  refine g_bipush C dX8_init_519 (v := 31) (by decide) ?_
  refine g_iconst C dX8_init_521 (v := 0) (by decide) ?_
  refine g_iastE C dX8_init_522 (k := 31) (by decide) (vp_in_iff.mpr ⟨by decide +kernel, by decide +kernel⟩) (by decide) ?_
  refine g_dup C rfl dX8_init_523 ?_
  refine g_bipush C dX8_init_524 (v := 32) (by decide) ?_
  refine g_iconst C dX8_init_526 (v := 0) (by decide) ?_
  refine g_iastE C dX8_init_527 (k := 32) (by decide) (vp_in_iff.mpr ⟨by decide +kernel, by decide +kernel⟩) (by decide) ?_
  exact k
def mdW (cs : CS) (v : Nat → Nat) : va_W := [(v 0, .inr (8, [.int 0, .ref (v 1), .int 0, .int 0, .int 0, .ref (v 2), .int 0, .ref (v 3), .ref (v 4), .int 0, .int 0, .int 0, .ref (v 5), .int 0, .ref (v 6), .ref (v 7), .ref (v 8), .ref (v 9), .ref (v 10), .ref (v 11), .ref (v 12), .ref (v 13), .ref (v 14), .ref (v 15), .ref (v 16), .ref (v 17), .ref (v 18), .int 0, .int 0])), (v 1, iA cs 200), (v 2, iA cs 36), (v 3, iA cs 77), (v 4, fA cs 4 (lA ml33 4)), (v 5, iA cs 36), (v 6, iA cs 77), (v 7, iA cs 7), (v 8, iA cs 7), (v 9, iA cs 7), (v 10, iA cs 7), (v 11, iA cs 7), (v 12, iA cs 7), (v 13, iA cs 21), (v 14, iA cs 100), (v 15, iA cs 12928), (v 16, fA cs 15 (lA ml146 15)), (v 17, fA cs 22 (lA ml232 22)), (v 18, fA cs 33 (lA ml355 33))]
set_option maxHeartbeats 4000000 in
set_option maxRecDepth 100000 in
theorem md_fst (cs : CS) (v : Nat → Nat) : (mdW cs v).map Prod.fst = (List.range 19).map v := rfl
set_option maxHeartbeats 4000000 in
set_option maxRecDepth 100000 in
theorem md_a {κ : Kg} {a : Nat} (C : Cg κ RX8 cX8_init 2 none rmX8_init) (hin : κ.2.1.2.2.2.1.name = "<init>") (k : ∀ v : Nat → Nat, v 0 = a → G κ 2 18 13591 (LW κ (mdW κ.2.2.2.1 v)) 531 [(0, .ref (v 0))] []) : G κ 2 0 0 (LW κ [(a, .inr (8, [.int 0, .null, .int 0, .int 0, .int 0, .null, .int 0, .null, .null, .int 0, .int 0, .int 0, .null, .int 0, .null, .null, .null, .null, .null, .null, .null, .null, .null, .null, .null, .null, .null, .int 0, .int 0]))]) 0 [(0, .ref a)] [] := by
  refine g_aload_n C dX8_init_0 0 rfl ?_
  refine g_obj C dX8_init_1 oiX8_1 (Nat.le_of_ble_eq_true rfl) ⟨by decide, by decide⟩ ?_
  refine g_aload_n C dX8_init_4 0 rfl ?_
  refine g_sipush C dX8_init_5 (v := 200) (by decide) ?_
  refine g_newi C dX8_init_8 (by decide) (N := 200) (by decide) (Nat.le_of_ble_eq_true rfl) ⟨Nat.le_of_ble_eq_true rfl, Nat.le_of_ble_eq_true rfl⟩ (fun q0 => ?_)
  refine g_putF C hin 0 dX8_init_10 pfX8_7 rfl (Nat.le_of_ble_eq_true rfl) rfl rfl (ws' := [(a, .inr (8, [.int 0, .ref q0, .int 0, .int 0, .int 0, .null, .int 0, .null, .null, .int 0, .int 0, .int 0, .null, .int 0, .null, .null, .null, .null, .null, .null, .null, .null, .null, .null, .null, .null, .null, .int 0, .int 0])), (q0, iA κ.2.2.2.1 200)]) rfl ?_
  refine g_aload_n C dX8_init_13 0 rfl ?_
  refine g_bipush C dX8_init_14 (v := 36) (by decide) ?_
  refine g_newi C dX8_init_16 (by decide) (N := 36) (by decide) (Nat.le_of_ble_eq_true rfl) ⟨Nat.le_of_ble_eq_true rfl, Nat.le_of_ble_eq_true rfl⟩ (fun q1 => ?_)
  refine g_putF C hin 0 dX8_init_18 pfX8_13 rfl (Nat.le_of_ble_eq_true rfl) rfl rfl (ws' := [(a, .inr (8, [.int 0, .ref q0, .int 0, .int 0, .int 0, .ref q1, .int 0, .null, .null, .int 0, .int 0, .int 0, .null, .int 0, .null, .null, .null, .null, .null, .null, .null, .null, .null, .null, .null, .null, .null, .int 0, .int 0])), (q0, iA κ.2.2.2.1 200), (q1, iA κ.2.2.2.1 36)]) rfl ?_
  refine g_aload_n C dX8_init_21 0 rfl ?_
  refine g_bipush C dX8_init_22 (v := 77) (by decide) ?_
  refine g_newi C dX8_init_24 (by decide) (N := 77) (by decide) (Nat.le_of_ble_eq_true rfl) ⟨Nat.le_of_ble_eq_true rfl, Nat.le_of_ble_eq_true rfl⟩ (fun q2 => ?_)
  refine g_putF C hin 0 dX8_init_26 pfX8_16 rfl (Nat.le_of_ble_eq_true rfl) rfl rfl (ws' := [(a, .inr (8, [.int 0, .ref q0, .int 0, .int 0, .int 0, .ref q1, .int 0, .ref q2, .null, .int 0, .int 0, .int 0, .null, .int 0, .null, .null, .null, .null, .null, .null, .null, .null, .null, .null, .null, .null, .null, .int 0, .int 0])), (q0, iA κ.2.2.2.1 200), (q1, iA κ.2.2.2.1 36), (q2, iA κ.2.2.2.1 77)]) rfl ?_
  refine g_aload_n C dX8_init_29 0 rfl ?_
  refine g_iconst C dX8_init_30 (v := 4) (by decide) ?_
  refine g_newi C dX8_init_31 (by decide) (N := 4) (by decide) (Nat.le_of_ble_eq_true rfl) ⟨Nat.le_of_ble_eq_true rfl, Nat.le_of_ble_eq_true rfl⟩ (fun q3 => ?_)
  refine mi33 C (wr := [(a, .inr (8, [.int 0, .ref q0, .int 0, .int 0, .int 0, .ref q1, .int 0, .ref q2, .null, .int 0, .int 0, .int 0, .null, .int 0, .null, .null, .null, .null, .null, .null, .null, .null, .null, .null, .null, .null, .null, .int 0, .int 0])), (q0, iA κ.2.2.2.1 200), (q1, iA κ.2.2.2.1 36), (q2, iA κ.2.2.2.1 77)]) ?_
  refine g_putF C hin 0 dX8_init_49 pfX8_19 rfl (Nat.le_of_ble_eq_true rfl) rfl rfl (ws' := [(a, .inr (8, [.int 0, .ref q0, .int 0, .int 0, .int 0, .ref q1, .int 0, .ref q2, .ref q3, .int 0, .int 0, .int 0, .null, .int 0, .null, .null, .null, .null, .null, .null, .null, .null, .null, .null, .null, .null, .null, .int 0, .int 0])), (q0, iA κ.2.2.2.1 200), (q1, iA κ.2.2.2.1 36), (q2, iA κ.2.2.2.1 77), (q3, fA κ.2.2.2.1 4 (lA ml33 4))]) rfl ?_
  refine g_aload_n C dX8_init_52 0 rfl ?_
  refine g_bipush C dX8_init_53 (v := 36) (by decide) ?_
  refine g_newi C dX8_init_55 (by decide) (N := 36) (by decide) (Nat.le_of_ble_eq_true rfl) ⟨Nat.le_of_ble_eq_true rfl, Nat.le_of_ble_eq_true rfl⟩ (fun q4 => ?_)
  refine g_putF C hin 0 dX8_init_57 pfX8_22 rfl (Nat.le_of_ble_eq_true rfl) rfl rfl (ws' := [(a, .inr (8, [.int 0, .ref q0, .int 0, .int 0, .int 0, .ref q1, .int 0, .ref q2, .ref q3, .int 0, .int 0, .int 0, .ref q4, .int 0, .null, .null, .null, .null, .null, .null, .null, .null, .null, .null, .null, .null, .null, .int 0, .int 0])), (q0, iA κ.2.2.2.1 200), (q1, iA κ.2.2.2.1 36), (q2, iA κ.2.2.2.1 77), (q3, fA κ.2.2.2.1 4 (lA ml33 4)), (q4, iA κ.2.2.2.1 36)]) rfl ?_
  refine g_aload_n C dX8_init_60 0 rfl ?_
  refine g_bipush C dX8_init_61 (v := 77) (by decide) ?_
  refine g_newi C dX8_init_63 (by decide) (N := 77) (by decide) (Nat.le_of_ble_eq_true rfl) ⟨Nat.le_of_ble_eq_true rfl, Nat.le_of_ble_eq_true rfl⟩ (fun q5 => ?_)
  refine g_putF C hin 0 dX8_init_65 pfX8_25 rfl (Nat.le_of_ble_eq_true rfl) rfl rfl (ws' := [(a, .inr (8, [.int 0, .ref q0, .int 0, .int 0, .int 0, .ref q1, .int 0, .ref q2, .ref q3, .int 0, .int 0, .int 0, .ref q4, .int 0, .ref q5, .null, .null, .null, .null, .null, .null, .null, .null, .null, .null, .null, .null, .int 0, .int 0])), (q0, iA κ.2.2.2.1 200), (q1, iA κ.2.2.2.1 36), (q2, iA κ.2.2.2.1 77), (q3, fA κ.2.2.2.1 4 (lA ml33 4)), (q4, iA κ.2.2.2.1 36), (q5, iA κ.2.2.2.1 77)]) rfl ?_
  refine g_aload_n C dX8_init_68 0 rfl ?_
  refine g_bipush C dX8_init_69 (v := 7) (by decide) ?_
  refine g_newi C dX8_init_71 (by decide) (N := 7) (by decide) (Nat.le_of_ble_eq_true rfl) ⟨Nat.le_of_ble_eq_true rfl, Nat.le_of_ble_eq_true rfl⟩ (fun q6 => ?_)
  refine g_putF C hin 0 dX8_init_73 pfX8_28 rfl (Nat.le_of_ble_eq_true rfl) rfl rfl (ws' := [(a, .inr (8, [.int 0, .ref q0, .int 0, .int 0, .int 0, .ref q1, .int 0, .ref q2, .ref q3, .int 0, .int 0, .int 0, .ref q4, .int 0, .ref q5, .ref q6, .null, .null, .null, .null, .null, .null, .null, .null, .null, .null, .null, .int 0, .int 0])), (q0, iA κ.2.2.2.1 200), (q1, iA κ.2.2.2.1 36), (q2, iA κ.2.2.2.1 77), (q3, fA κ.2.2.2.1 4 (lA ml33 4)), (q4, iA κ.2.2.2.1 36), (q5, iA κ.2.2.2.1 77), (q6, iA κ.2.2.2.1 7)]) rfl ?_
  refine g_aload_n C dX8_init_76 0 rfl ?_
  refine g_bipush C dX8_init_77 (v := 7) (by decide) ?_
  refine g_newi C dX8_init_79 (by decide) (N := 7) (by decide) (Nat.le_of_ble_eq_true rfl) ⟨Nat.le_of_ble_eq_true rfl, Nat.le_of_ble_eq_true rfl⟩ (fun q7 => ?_)
  refine g_putF C hin 0 dX8_init_81 pfX8_31 rfl (Nat.le_of_ble_eq_true rfl) rfl rfl (ws' := [(a, .inr (8, [.int 0, .ref q0, .int 0, .int 0, .int 0, .ref q1, .int 0, .ref q2, .ref q3, .int 0, .int 0, .int 0, .ref q4, .int 0, .ref q5, .ref q6, .ref q7, .null, .null, .null, .null, .null, .null, .null, .null, .null, .null, .int 0, .int 0])), (q0, iA κ.2.2.2.1 200), (q1, iA κ.2.2.2.1 36), (q2, iA κ.2.2.2.1 77), (q3, fA κ.2.2.2.1 4 (lA ml33 4)), (q4, iA κ.2.2.2.1 36), (q5, iA κ.2.2.2.1 77), (q6, iA κ.2.2.2.1 7), (q7, iA κ.2.2.2.1 7)]) rfl ?_
  refine g_aload_n C dX8_init_84 0 rfl ?_
  refine g_bipush C dX8_init_85 (v := 7) (by decide) ?_
  refine g_newi C dX8_init_87 (by decide) (N := 7) (by decide) (Nat.le_of_ble_eq_true rfl) ⟨Nat.le_of_ble_eq_true rfl, Nat.le_of_ble_eq_true rfl⟩ (fun q8 => ?_)
  refine g_putF C hin 0 dX8_init_89 pfX8_34 rfl (Nat.le_of_ble_eq_true rfl) rfl rfl (ws' := [(a, .inr (8, [.int 0, .ref q0, .int 0, .int 0, .int 0, .ref q1, .int 0, .ref q2, .ref q3, .int 0, .int 0, .int 0, .ref q4, .int 0, .ref q5, .ref q6, .ref q7, .ref q8, .null, .null, .null, .null, .null, .null, .null, .null, .null, .int 0, .int 0])), (q0, iA κ.2.2.2.1 200), (q1, iA κ.2.2.2.1 36), (q2, iA κ.2.2.2.1 77), (q3, fA κ.2.2.2.1 4 (lA ml33 4)), (q4, iA κ.2.2.2.1 36), (q5, iA κ.2.2.2.1 77), (q6, iA κ.2.2.2.1 7), (q7, iA κ.2.2.2.1 7), (q8, iA κ.2.2.2.1 7)]) rfl ?_
  refine g_aload_n C dX8_init_92 0 rfl ?_
  refine g_bipush C dX8_init_93 (v := 7) (by decide) ?_
  refine g_newi C dX8_init_95 (by decide) (N := 7) (by decide) (Nat.le_of_ble_eq_true rfl) ⟨Nat.le_of_ble_eq_true rfl, Nat.le_of_ble_eq_true rfl⟩ (fun q9 => ?_)
  refine g_putF C hin 0 dX8_init_97 pfX8_37 rfl (Nat.le_of_ble_eq_true rfl) rfl rfl (ws' := [(a, .inr (8, [.int 0, .ref q0, .int 0, .int 0, .int 0, .ref q1, .int 0, .ref q2, .ref q3, .int 0, .int 0, .int 0, .ref q4, .int 0, .ref q5, .ref q6, .ref q7, .ref q8, .ref q9, .null, .null, .null, .null, .null, .null, .null, .null, .int 0, .int 0])), (q0, iA κ.2.2.2.1 200), (q1, iA κ.2.2.2.1 36), (q2, iA κ.2.2.2.1 77), (q3, fA κ.2.2.2.1 4 (lA ml33 4)), (q4, iA κ.2.2.2.1 36), (q5, iA κ.2.2.2.1 77), (q6, iA κ.2.2.2.1 7), (q7, iA κ.2.2.2.1 7), (q8, iA κ.2.2.2.1 7), (q9, iA κ.2.2.2.1 7)]) rfl ?_
  refine g_aload_n C dX8_init_100 0 rfl ?_
  refine g_bipush C dX8_init_101 (v := 7) (by decide) ?_
  refine g_newi C dX8_init_103 (by decide) (N := 7) (by decide) (Nat.le_of_ble_eq_true rfl) ⟨Nat.le_of_ble_eq_true rfl, Nat.le_of_ble_eq_true rfl⟩ (fun q10 => ?_)
  refine g_putF C hin 0 dX8_init_105 pfX8_40 rfl (Nat.le_of_ble_eq_true rfl) rfl rfl (ws' := [(a, .inr (8, [.int 0, .ref q0, .int 0, .int 0, .int 0, .ref q1, .int 0, .ref q2, .ref q3, .int 0, .int 0, .int 0, .ref q4, .int 0, .ref q5, .ref q6, .ref q7, .ref q8, .ref q9, .ref q10, .null, .null, .null, .null, .null, .null, .null, .int 0, .int 0])), (q0, iA κ.2.2.2.1 200), (q1, iA κ.2.2.2.1 36), (q2, iA κ.2.2.2.1 77), (q3, fA κ.2.2.2.1 4 (lA ml33 4)), (q4, iA κ.2.2.2.1 36), (q5, iA κ.2.2.2.1 77), (q6, iA κ.2.2.2.1 7), (q7, iA κ.2.2.2.1 7), (q8, iA κ.2.2.2.1 7), (q9, iA κ.2.2.2.1 7), (q10, iA κ.2.2.2.1 7)]) rfl ?_
  refine g_aload_n C dX8_init_108 0 rfl ?_
  refine g_bipush C dX8_init_109 (v := 7) (by decide) ?_
  refine g_newi C dX8_init_111 (by decide) (N := 7) (by decide) (Nat.le_of_ble_eq_true rfl) ⟨Nat.le_of_ble_eq_true rfl, Nat.le_of_ble_eq_true rfl⟩ (fun q11 => ?_)
  refine g_putF C hin 0 dX8_init_113 pfX8_43 rfl (Nat.le_of_ble_eq_true rfl) rfl rfl (ws' := [(a, .inr (8, [.int 0, .ref q0, .int 0, .int 0, .int 0, .ref q1, .int 0, .ref q2, .ref q3, .int 0, .int 0, .int 0, .ref q4, .int 0, .ref q5, .ref q6, .ref q7, .ref q8, .ref q9, .ref q10, .ref q11, .null, .null, .null, .null, .null, .null, .int 0, .int 0])), (q0, iA κ.2.2.2.1 200), (q1, iA κ.2.2.2.1 36), (q2, iA κ.2.2.2.1 77), (q3, fA κ.2.2.2.1 4 (lA ml33 4)), (q4, iA κ.2.2.2.1 36), (q5, iA κ.2.2.2.1 77), (q6, iA κ.2.2.2.1 7), (q7, iA κ.2.2.2.1 7), (q8, iA κ.2.2.2.1 7), (q9, iA κ.2.2.2.1 7), (q10, iA κ.2.2.2.1 7), (q11, iA κ.2.2.2.1 7)]) rfl ?_
  refine g_aload_n C dX8_init_116 0 rfl ?_
  refine g_bipush C dX8_init_117 (v := 21) (by decide) ?_
  refine g_newi C dX8_init_119 (by decide) (N := 21) (by decide) (Nat.le_of_ble_eq_true rfl) ⟨Nat.le_of_ble_eq_true rfl, Nat.le_of_ble_eq_true rfl⟩ (fun q12 => ?_)
  refine g_putF C hin 0 dX8_init_121 pfX8_46 rfl (Nat.le_of_ble_eq_true rfl) rfl rfl (ws' := [(a, .inr (8, [.int 0, .ref q0, .int 0, .int 0, .int 0, .ref q1, .int 0, .ref q2, .ref q3, .int 0, .int 0, .int 0, .ref q4, .int 0, .ref q5, .ref q6, .ref q7, .ref q8, .ref q9, .ref q10, .ref q11, .ref q12, .null, .null, .null, .null, .null, .int 0, .int 0])), (q0, iA κ.2.2.2.1 200), (q1, iA κ.2.2.2.1 36), (q2, iA κ.2.2.2.1 77), (q3, fA κ.2.2.2.1 4 (lA ml33 4)), (q4, iA κ.2.2.2.1 36), (q5, iA κ.2.2.2.1 77), (q6, iA κ.2.2.2.1 7), (q7, iA κ.2.2.2.1 7), (q8, iA κ.2.2.2.1 7), (q9, iA κ.2.2.2.1 7), (q10, iA κ.2.2.2.1 7), (q11, iA κ.2.2.2.1 7), (q12, iA κ.2.2.2.1 21)]) rfl ?_
  refine g_aload_n C dX8_init_124 0 rfl ?_
  refine g_bipush C dX8_init_125 (v := 100) (by decide) ?_
  refine g_newi C dX8_init_127 (by decide) (N := 100) (by decide) (Nat.le_of_ble_eq_true rfl) ⟨Nat.le_of_ble_eq_true rfl, Nat.le_of_ble_eq_true rfl⟩ (fun q13 => ?_)
  refine g_putF C hin 0 dX8_init_129 pfX8_49 rfl (Nat.le_of_ble_eq_true rfl) rfl rfl (ws' := [(a, .inr (8, [.int 0, .ref q0, .int 0, .int 0, .int 0, .ref q1, .int 0, .ref q2, .ref q3, .int 0, .int 0, .int 0, .ref q4, .int 0, .ref q5, .ref q6, .ref q7, .ref q8, .ref q9, .ref q10, .ref q11, .ref q12, .ref q13, .null, .null, .null, .null, .int 0, .int 0])), (q0, iA κ.2.2.2.1 200), (q1, iA κ.2.2.2.1 36), (q2, iA κ.2.2.2.1 77), (q3, fA κ.2.2.2.1 4 (lA ml33 4)), (q4, iA κ.2.2.2.1 36), (q5, iA κ.2.2.2.1 77), (q6, iA κ.2.2.2.1 7), (q7, iA κ.2.2.2.1 7), (q8, iA κ.2.2.2.1 7), (q9, iA κ.2.2.2.1 7), (q10, iA κ.2.2.2.1 7), (q11, iA κ.2.2.2.1 7), (q12, iA κ.2.2.2.1 21), (q13, iA κ.2.2.2.1 100)]) rfl ?_
  refine g_aload_n C dX8_init_132 0 rfl ?_
  refine g_sipush C dX8_init_133 (v := 12928) (by decide) ?_
  refine g_newi C dX8_init_136 (by decide) (N := 12928) (by decide) (Nat.le_of_ble_eq_true rfl) ⟨Nat.le_of_ble_eq_true rfl, Nat.le_of_ble_eq_true rfl⟩ (fun q14 => ?_)
  refine g_putF C hin 0 dX8_init_138 pfX8_52 rfl (Nat.le_of_ble_eq_true rfl) rfl rfl (ws' := [(a, .inr (8, [.int 0, .ref q0, .int 0, .int 0, .int 0, .ref q1, .int 0, .ref q2, .ref q3, .int 0, .int 0, .int 0, .ref q4, .int 0, .ref q5, .ref q6, .ref q7, .ref q8, .ref q9, .ref q10, .ref q11, .ref q12, .ref q13, .ref q14, .null, .null, .null, .int 0, .int 0])), (q0, iA κ.2.2.2.1 200), (q1, iA κ.2.2.2.1 36), (q2, iA κ.2.2.2.1 77), (q3, fA κ.2.2.2.1 4 (lA ml33 4)), (q4, iA κ.2.2.2.1 36), (q5, iA κ.2.2.2.1 77), (q6, iA κ.2.2.2.1 7), (q7, iA κ.2.2.2.1 7), (q8, iA κ.2.2.2.1 7), (q9, iA κ.2.2.2.1 7), (q10, iA κ.2.2.2.1 7), (q11, iA κ.2.2.2.1 7), (q12, iA κ.2.2.2.1 21), (q13, iA κ.2.2.2.1 100), (q14, iA κ.2.2.2.1 12928)]) rfl ?_
  refine g_aload_n C dX8_init_141 0 rfl ?_
  refine g_bipush C dX8_init_142 (v := 15) (by decide) ?_
  refine g_newi C dX8_init_144 (by decide) (N := 15) (by decide) (Nat.le_of_ble_eq_true rfl) ⟨Nat.le_of_ble_eq_true rfl, Nat.le_of_ble_eq_true rfl⟩ (fun q15 => ?_)
  refine mi146 C (wr := [(a, .inr (8, [.int 0, .ref q0, .int 0, .int 0, .int 0, .ref q1, .int 0, .ref q2, .ref q3, .int 0, .int 0, .int 0, .ref q4, .int 0, .ref q5, .ref q6, .ref q7, .ref q8, .ref q9, .ref q10, .ref q11, .ref q12, .ref q13, .ref q14, .null, .null, .null, .int 0, .int 0])), (q0, iA κ.2.2.2.1 200), (q1, iA κ.2.2.2.1 36), (q2, iA κ.2.2.2.1 77), (q3, fA κ.2.2.2.1 4 (lA ml33 4)), (q4, iA κ.2.2.2.1 36), (q5, iA κ.2.2.2.1 77), (q6, iA κ.2.2.2.1 7), (q7, iA κ.2.2.2.1 7), (q8, iA κ.2.2.2.1 7), (q9, iA κ.2.2.2.1 7), (q10, iA κ.2.2.2.1 7), (q11, iA κ.2.2.2.1 7), (q12, iA κ.2.2.2.1 21), (q13, iA κ.2.2.2.1 100), (q14, iA κ.2.2.2.1 12928)]) ?_
  refine g_putF C hin 0 dX8_init_224 pfX8_55 rfl (Nat.le_of_ble_eq_true rfl) rfl rfl (ws' := [(a, .inr (8, [.int 0, .ref q0, .int 0, .int 0, .int 0, .ref q1, .int 0, .ref q2, .ref q3, .int 0, .int 0, .int 0, .ref q4, .int 0, .ref q5, .ref q6, .ref q7, .ref q8, .ref q9, .ref q10, .ref q11, .ref q12, .ref q13, .ref q14, .ref q15, .null, .null, .int 0, .int 0])), (q0, iA κ.2.2.2.1 200), (q1, iA κ.2.2.2.1 36), (q2, iA κ.2.2.2.1 77), (q3, fA κ.2.2.2.1 4 (lA ml33 4)), (q4, iA κ.2.2.2.1 36), (q5, iA κ.2.2.2.1 77), (q6, iA κ.2.2.2.1 7), (q7, iA κ.2.2.2.1 7), (q8, iA κ.2.2.2.1 7), (q9, iA κ.2.2.2.1 7), (q10, iA κ.2.2.2.1 7), (q11, iA κ.2.2.2.1 7), (q12, iA κ.2.2.2.1 21), (q13, iA κ.2.2.2.1 100), (q14, iA κ.2.2.2.1 12928), (q15, fA κ.2.2.2.1 15 (lA ml146 15))]) rfl ?_
  refine g_aload_n C dX8_init_227 0 rfl ?_
  refine g_bipush C dX8_init_228 (v := 22) (by decide) ?_
  refine g_newi C dX8_init_230 (by decide) (N := 22) (by decide) (Nat.le_of_ble_eq_true rfl) ⟨Nat.le_of_ble_eq_true rfl, Nat.le_of_ble_eq_true rfl⟩ (fun q16 => ?_)
  refine mi232 C (wr := [(a, .inr (8, [.int 0, .ref q0, .int 0, .int 0, .int 0, .ref q1, .int 0, .ref q2, .ref q3, .int 0, .int 0, .int 0, .ref q4, .int 0, .ref q5, .ref q6, .ref q7, .ref q8, .ref q9, .ref q10, .ref q11, .ref q12, .ref q13, .ref q14, .ref q15, .null, .null, .int 0, .int 0])), (q0, iA κ.2.2.2.1 200), (q1, iA κ.2.2.2.1 36), (q2, iA κ.2.2.2.1 77), (q3, fA κ.2.2.2.1 4 (lA ml33 4)), (q4, iA κ.2.2.2.1 36), (q5, iA κ.2.2.2.1 77), (q6, iA κ.2.2.2.1 7), (q7, iA κ.2.2.2.1 7), (q8, iA κ.2.2.2.1 7), (q9, iA κ.2.2.2.1 7), (q10, iA κ.2.2.2.1 7), (q11, iA κ.2.2.2.1 7), (q12, iA κ.2.2.2.1 21), (q13, iA κ.2.2.2.1 100), (q14, iA κ.2.2.2.1 12928), (q15, fA κ.2.2.2.1 15 (lA ml146 15))]) ?_
  refine g_putF C hin 0 dX8_init_347 pfX8_58 rfl (Nat.le_of_ble_eq_true rfl) rfl rfl (ws' := [(a, .inr (8, [.int 0, .ref q0, .int 0, .int 0, .int 0, .ref q1, .int 0, .ref q2, .ref q3, .int 0, .int 0, .int 0, .ref q4, .int 0, .ref q5, .ref q6, .ref q7, .ref q8, .ref q9, .ref q10, .ref q11, .ref q12, .ref q13, .ref q14, .ref q15, .ref q16, .null, .int 0, .int 0])), (q0, iA κ.2.2.2.1 200), (q1, iA κ.2.2.2.1 36), (q2, iA κ.2.2.2.1 77), (q3, fA κ.2.2.2.1 4 (lA ml33 4)), (q4, iA κ.2.2.2.1 36), (q5, iA κ.2.2.2.1 77), (q6, iA κ.2.2.2.1 7), (q7, iA κ.2.2.2.1 7), (q8, iA κ.2.2.2.1 7), (q9, iA κ.2.2.2.1 7), (q10, iA κ.2.2.2.1 7), (q11, iA κ.2.2.2.1 7), (q12, iA κ.2.2.2.1 21), (q13, iA κ.2.2.2.1 100), (q14, iA κ.2.2.2.1 12928), (q15, fA κ.2.2.2.1 15 (lA ml146 15)), (q16, fA κ.2.2.2.1 22 (lA ml232 22))]) rfl ?_
  refine g_aload_n C dX8_init_350 0 rfl ?_
  refine g_bipush C dX8_init_351 (v := 33) (by decide) ?_
  refine g_newi C dX8_init_353 (by decide) (N := 33) (by decide) (Nat.le_of_ble_eq_true rfl) ⟨Nat.le_of_ble_eq_true rfl, Nat.le_of_ble_eq_true rfl⟩ (fun q17 => ?_)
  refine mi355 C (wr := [(a, .inr (8, [.int 0, .ref q0, .int 0, .int 0, .int 0, .ref q1, .int 0, .ref q2, .ref q3, .int 0, .int 0, .int 0, .ref q4, .int 0, .ref q5, .ref q6, .ref q7, .ref q8, .ref q9, .ref q10, .ref q11, .ref q12, .ref q13, .ref q14, .ref q15, .ref q16, .null, .int 0, .int 0])), (q0, iA κ.2.2.2.1 200), (q1, iA κ.2.2.2.1 36), (q2, iA κ.2.2.2.1 77), (q3, fA κ.2.2.2.1 4 (lA ml33 4)), (q4, iA κ.2.2.2.1 36), (q5, iA κ.2.2.2.1 77), (q6, iA κ.2.2.2.1 7), (q7, iA κ.2.2.2.1 7), (q8, iA κ.2.2.2.1 7), (q9, iA κ.2.2.2.1 7), (q10, iA κ.2.2.2.1 7), (q11, iA κ.2.2.2.1 7), (q12, iA κ.2.2.2.1 21), (q13, iA κ.2.2.2.1 100), (q14, iA κ.2.2.2.1 12928), (q15, fA κ.2.2.2.1 15 (lA ml146 15)), (q16, fA κ.2.2.2.1 22 (lA ml232 22))]) ?_
  refine g_putF C hin 0 dX8_init_528 pfX8_61 rfl (Nat.le_of_ble_eq_true rfl) rfl rfl (ws' := [(a, .inr (8, [.int 0, .ref q0, .int 0, .int 0, .int 0, .ref q1, .int 0, .ref q2, .ref q3, .int 0, .int 0, .int 0, .ref q4, .int 0, .ref q5, .ref q6, .ref q7, .ref q8, .ref q9, .ref q10, .ref q11, .ref q12, .ref q13, .ref q14, .ref q15, .ref q16, .ref q17, .int 0, .int 0])), (q0, iA κ.2.2.2.1 200), (q1, iA κ.2.2.2.1 36), (q2, iA κ.2.2.2.1 77), (q3, fA κ.2.2.2.1 4 (lA ml33 4)), (q4, iA κ.2.2.2.1 36), (q5, iA κ.2.2.2.1 77), (q6, iA κ.2.2.2.1 7), (q7, iA κ.2.2.2.1 7), (q8, iA κ.2.2.2.1 7), (q9, iA κ.2.2.2.1 7), (q10, iA κ.2.2.2.1 7), (q11, iA κ.2.2.2.1 7), (q12, iA κ.2.2.2.1 21), (q13, iA κ.2.2.2.1 100), (q14, iA κ.2.2.2.1 12928), (q15, fA κ.2.2.2.1 15 (lA ml146 15)), (q16, fA κ.2.2.2.1 22 (lA ml232 22)), (q17, fA κ.2.2.2.1 33 (lA ml355 33))]) rfl ?_
  exact k (fun k => [a, q0, q1, q2, q3, q4, q5, q6, q7, q8, q9, q10, q11, q12, q13, q14, q15, q16, q17].getD k 0) rfl
def mdPL : List (List Nat) := [[], [], [], [], [], [], [], [], [], [], [], [], [], [], [], [], [], [], [], [], [], [], [], [], [], [], [], [], [], [], [0], [1], [], [], [], [2], [], [3], [4], [], [], [], [5], [], [6], [7], [8], [9], [10], [11], [12], [13], [14], [15], [16], [17], [18]]
def mdP (r : Nat) (i : Int) : Nat := ((mdPL.getD r []).getD i.toNat 0)
def mdI (p : Nat) : Nat × Int := ([(30, 0), (31, 0), (35, 0), (37, 0), (38, 0), (42, 0), (44, 0), (45, 0), (46, 0), (47, 0), (48, 0), (49, 0), (50, 0), (51, 0), (52, 0), (53, 0), (54, 0), (55, 0), (56, 0)] : List (Nat × Int)).getD p (99, 0)
def mdA (v : Nat → Nat) : AD := fun r i => v (mdP r i)
theorem md_ok : ∀ r : Fin 57, 30 ≤ r.val → (0 : Int) < cn r.val → cn r.val = 1 ∧ mdI (mdP r.val 0) = (r.val, 0) ∧ mdP r.val 0 < 19 := by decide +kernel
def MM0 : Mem := fun r _ j => if r = 38 then (lA ml33 4 j.toNat).toInt else if r = 54 then (lA ml146 15 j.toNat).toInt else if r = 55 then (lA ml232 22 j.toNat).toInt else if r = 56 then (lA ml355 33 j.toNat).toInt else 0
set_option maxHeartbeats 8000000 in
set_option maxRecDepth 100000 in
theorem md_HI {D : va_G} {cs : CS} {v : Nat → Nat} {H : Heap} (hP : va_P D classes (mdW cs v) H) : HI D (mdA v) cs domM MM0 H := by
  intro r i hd h0 h1
  have hd : 30 ≤ r := Nat.le_of_ble_eq_true hd
  have hr : r < 57 := by
    rcases Nat.lt_or_ge r 57 with h | h
    · exact h
    · have e : cn r = 0 := by unfold cn; rw [List.getD_eq_getElem?_getD, List.getElem?_eq_none (by exact h)]; rfl
      omega
  have hi : i = 0 := by
    have := md_ok ⟨r, hr⟩ hd (by show 0 < cn r; omega)
    have h2 : cn r = 1 := this.1
    omega
  subst hi
  have hr2 : r = 30 ∨ r = 31 ∨ r = 32 ∨ r = 33 ∨ r = 34 ∨ r = 35 ∨ r = 36 ∨ r = 37 ∨ r = 38 ∨ r = 39 ∨ r = 40 ∨ r = 41 ∨ r = 42 ∨ r = 43 ∨ r = 44 ∨ r = 45 ∨ r = 46 ∨ r = 47 ∨ r = 48 ∨ r = 49 ∨ r = 50 ∨ r = 51 ∨ r = 52 ∨ r = 53 ∨ r = 54 ∨ r = 55 ∨ r = 56 := by omega
  rcases hr2 with rfl | rfl | rfl | rfl | rfl | rfl | rfl | rfl | rfl | rfl | rfl | rfl | rfl | rfl | rfl | rfl | rfl | rfl | rfl | rfl | rfl | rfl | rfl | rfl | rfl | rfl | rfl
  · exact hP 0 _ rfl
  · exact at_z (hP 1 _ rfl) rfl rfl (fun _ => rfl)
  · exact absurd h1 (by decide)
  · exact absurd h1 (by decide)
  · exact absurd h1 (by decide)
  · exact at_z (hP 2 _ rfl) rfl rfl (fun _ => rfl)
  · exact absurd h1 (by decide)
  · exact at_z (hP 3 _ rfl) rfl rfl (fun _ => rfl)
  · exact at_f (hP 4 _ rfl) rfl rfl (fun j hj => (Int32.ofInt_toInt _).symm)
  · exact absurd h1 (by decide)
  · exact absurd h1 (by decide)
  · exact absurd h1 (by decide)
  · exact at_z (hP 5 _ rfl) rfl rfl (fun _ => rfl)
  · exact absurd h1 (by decide)
  · exact at_z (hP 6 _ rfl) rfl rfl (fun _ => rfl)
  · exact at_z (hP 7 _ rfl) rfl rfl (fun _ => rfl)
  · exact at_z (hP 8 _ rfl) rfl rfl (fun _ => rfl)
  · exact at_z (hP 9 _ rfl) rfl rfl (fun _ => rfl)
  · exact at_z (hP 10 _ rfl) rfl rfl (fun _ => rfl)
  · exact at_z (hP 11 _ rfl) rfl rfl (fun _ => rfl)
  · exact at_z (hP 12 _ rfl) rfl rfl (fun _ => rfl)
  · exact at_z (hP 13 _ rfl) rfl rfl (fun _ => rfl)
  · exact at_z (hP 14 _ rfl) rfl rfl (fun _ => rfl)
  · exact at_z (hP 15 _ rfl) rfl rfl (fun _ => rfl)
  · exact at_f (hP 16 _ rfl) rfl rfl (fun j hj => (Int32.ofInt_toInt _).symm)
  · exact at_f (hP 17 _ rfl) rfl rfl (fun j hj => (Int32.ofInt_toInt _).symm)
  · exact at_f (hP 18 _ rfl) rfl rfl (fun j hj => (Int32.ofInt_toInt _).symm)

/-! rows of methods 152 to 172 -/
section
variable {d : Nat} {Q : XO → Hp → Prop} {S : SH} {I : MI} {L : ML} {R : MR} {G : MG} {A : Hp} {st : List Value} {x y z x0 x1 x2 x3 x4 x5 x6 x7 x8 x9 : Int32} {lx ly l0 l1 l2 l3 l4 l5 l6 : Int64} {t kk jj a b a0 a1 a2 a3 a4 a5 a6 a7 a8 a9 : Nat} {o o0 o1 o2 o3 o4 : Option Nat} {v0 v1 v2 v3 v4 v5 v6 v7 v8 v9 v10 v11 v12 v13 v14 v15 v16 v17 v18 v19 v20 : Option Value}
theorem i_152_0 : t_ins 152 0 = some (.aload_n 0) := by decide +kernel
theorem i_152_1 : t_ins 152 1 = some (.invokespecial 3) := by decide +kernel
theorem i_152_4 : t_ins 152 4 = some (.aload_n 0) := by decide +kernel
theorem i_152_5 : t_ins 152 5 = some (.iconst 2) := by decide +kernel
theorem i_152_6 : t_ins 152 6 = some (.newarray .int) := by decide +kernel
theorem i_152_8 : t_ins 152 8 = some (.putfield 9) := by decide +kernel
theorem i_152_11 : t_ins 152 11 = some (.aload_n 0) := by decide +kernel
theorem i_152_12 : t_ins 152 12 = some (.iconst (-1)) := by decide +kernel
theorem i_152_13 : t_ins 152 13 = some (.putfield 13) := by decide +kernel
theorem i_152_16 : t_ins 152 16 = some (.aload_n 0) := by decide +kernel
theorem i_152_17 : t_ins 152 17 = some (.sipush 400) := by decide +kernel
theorem i_152_20 : t_ins 152 20 = some (.newarray .int) := by decide +kernel
theorem i_152_22 : t_ins 152 22 = some (.putfield 17) := by decide +kernel
theorem i_152_25 : t_ins 152 25 = some (.aload_n 0) := by decide +kernel
theorem i_152_26 : t_ins 152 26 = some (.bipush 27) := by decide +kernel
theorem i_152_28 : t_ins 152 28 = some (.newarray .int) := by decide +kernel
theorem i_152_30 : t_ins 152 30 = some (.putfield 20) := by decide +kernel
theorem i_152_33 : t_ins 152 33 = some (.aload_n 0) := by decide +kernel
theorem i_152_34 : t_ins 152 34 = some (.bipush 12) := by decide +kernel
theorem i_152_36 : t_ins 152 36 = some (.newarray .int) := by decide +kernel
theorem i_152_38 : t_ins 152 38 = some (.putfield 23) := by decide +kernel
theorem i_152_41 : t_ins 152 41 = some (.aload_n 0) := by decide +kernel
theorem i_152_42 : t_ins 152 42 = some (.bipush 27) := by decide +kernel
theorem i_152_44 : t_ins 152 44 = some (.bipush 30) := by decide +kernel
theorem i_152_46 : t_ins 152 46 = some (.bipush 17) := by decide +kernel
theorem i_152_48 : t_ins 152 48 = some (.multianewarray 26 3) := by decide +kernel
theorem i_152_52 : t_ins 152 52 = some (.putfield 28) := by decide +kernel
theorem i_152_55 : t_ins 152 55 = some (.aload_n 0) := by decide +kernel
theorem i_152_56 : t_ins 152 56 = some (.bipush 27) := by decide +kernel
theorem i_152_58 : t_ins 152 58 = some (.bipush 30) := by decide +kernel
theorem i_152_60 : t_ins 152 60 = some (.bipush 6) := by decide +kernel
theorem i_152_62 : t_ins 152 62 = some (.bipush 8) := by decide +kernel
theorem i_152_64 : t_ins 152 64 = some (.multianewarray 31 4) := by decide +kernel
theorem i_152_68 : t_ins 152 68 = some (.putfield 33) := by decide +kernel
theorem i_152_71 : t_ins 152 71 = some (.aload_n 0) := by decide +kernel
theorem i_152_72 : t_ins 152 72 = some (.bipush 100) := by decide +kernel
theorem i_152_74 : t_ins 152 74 = some (.putfield 36) := by decide +kernel
theorem i_152_77 : t_ins 152 77 = some (.aload_n 0) := by decide +kernel
theorem i_152_78 : t_ins 152 78 = some (.sipush 3070) := by decide +kernel
theorem i_152_81 : t_ins 152 81 = some (.newarray .byte) := by decide +kernel
theorem i_152_83 : t_ins 152 83 = some (.putfield 39) := by decide +kernel
theorem i_152_86 : t_ins 152 86 = some (.aload_n 0) := by decide +kernel
theorem i_152_87 : t_ins 152 87 = some (.bipush 31) := by decide +kernel
theorem i_152_89 : t_ins 152 89 = some (.newarray .int) := by decide +kernel
theorem i_152_91 : t_ins 152 91 = some (.putfield 43) := by decide +kernel
theorem i_152_94 : t_ins 152 94 = some (.aload_n 0) := by decide +kernel
theorem i_152_95 : t_ins 152 95 = some (.bipush 33) := by decide +kernel
theorem i_152_97 : t_ins 152 97 = some (.iconst 4) := by decide +kernel
theorem i_152_98 : t_ins 152 98 = some (.multianewarray 46 2) := by decide +kernel
theorem i_152_102 : t_ins 152 102 = some (.putfield 48) := by decide +kernel
theorem i_152_105 : t_ins 152 105 = some (.aload_n 0) := by decide +kernel
theorem i_152_106 : t_ins 152 106 = some (.iconst (-1)) := by decide +kernel
theorem i_152_107 : t_ins 152 107 = some (.putfield 51) := by decide +kernel
theorem i_152_110 : t_ins 152 110 = some (.aload_n 0) := by decide +kernel
theorem i_152_111 : t_ins 152 111 = some (.ldc 54) := by decide +kernel
theorem i_152_113 : t_ins 152 113 = some (.newarray .byte) := by decide +kernel
theorem i_152_115 : t_ins 152 115 = some (.putfield 55) := by decide +kernel
theorem i_152_118 : t_ins 152 118 = some (.aload_n 0) := by decide +kernel
theorem i_152_119 : t_ins 152 119 = some (.sipush 1001) := by decide +kernel
theorem i_152_122 : t_ins 152 122 = some (.newarray .int) := by decide +kernel
theorem i_152_124 : t_ins 152 124 = some (.putfield 58) := by decide +kernel
theorem i_152_127 : t_ins 152 127 = some (.aload_n 0) := by decide +kernel
theorem i_152_128 : t_ins 152 128 = some (.sipush 1001) := by decide +kernel
theorem i_152_131 : t_ins 152 131 = some (.newarray .int) := by decide +kernel
theorem i_152_133 : t_ins 152 133 = some (.putfield 61) := by decide +kernel
theorem i_152_136 : t_ins 152 136 = some (.aload_n 0) := by decide +kernel
theorem i_152_137 : t_ins 152 137 = some (.ldc 54) := by decide +kernel
theorem i_152_139 : t_ins 152 139 = some (.newarray .byte) := by decide +kernel
theorem i_152_141 : t_ins 152 141 = some (.putfield 64) := by decide +kernel
theorem i_152_144 : t_ins 152 144 = some (.aload_n 0) := by decide +kernel
theorem i_152_145 : t_ins 152 145 = some (.sipush 1001) := by decide +kernel
theorem i_152_148 : t_ins 152 148 = some (.newarray .int) := by decide +kernel
theorem i_152_150 : t_ins 152 150 = some (.putfield 67) := by decide +kernel
theorem i_152_153 : t_ins 152 153 = some (.aload_n 0) := by decide +kernel
theorem i_152_154 : t_ins 152 154 = some (.sipush 1001) := by decide +kernel
theorem i_152_157 : t_ins 152 157 = some (.newarray .int) := by decide +kernel
theorem i_152_159 : t_ins 152 159 = some (.putfield 70) := by decide +kernel
theorem i_152_162 : t_ins 152 162 = some (.aload_n 0) := by decide +kernel
theorem i_152_163 : t_ins 152 163 = some (.sipush 1001) := by decide +kernel
theorem i_152_166 : t_ins 152 166 = some (.newarray .int) := by decide +kernel
theorem i_152_168 : t_ins 152 168 = some (.putfield 73) := by decide +kernel
theorem i_152_171 : t_ins 152 171 = some (.aload_n 0) := by decide +kernel
theorem i_152_172 : t_ins 152 172 = some (.sipush 1001) := by decide +kernel
theorem i_152_175 : t_ins 152 175 = some (.newarray .int) := by decide +kernel
theorem i_152_177 : t_ins 152 177 = some (.putfield 76) := by decide +kernel
theorem i_152_180 : t_ins 152 180 = some (.aload_n 0) := by decide +kernel
theorem i_152_181 : t_ins 152 181 = some (.sipush 400) := by decide +kernel
theorem i_152_184 : t_ins 152 184 = some (.newarray .byte) := by decide +kernel
theorem i_152_186 : t_ins 152 186 = some (.putfield 79) := by decide +kernel
theorem i_152_189 : t_ins 152 189 = some (.aload_n 0) := by decide +kernel
theorem i_152_190 : t_ins 152 190 = some (.bipush 41) := by decide +kernel
theorem i_152_192 : t_ins 152 192 = some (.newarray .int) := by decide +kernel
theorem i_152_194 : t_ins 152 194 = some (.putfield 82) := by decide +kernel
theorem i_152_197 : t_ins 152 197 = some (.aload_n 0) := by decide +kernel
theorem i_152_198 : t_ins 152 198 = some (.bipush 41) := by decide +kernel
theorem i_152_200 : t_ins 152 200 = some (.newarray .int) := by decide +kernel
theorem i_152_202 : t_ins 152 202 = some (.putfield 85) := by decide +kernel
theorem i_152_205 : t_ins 152 205 = some (.aload_n 0) := by decide +kernel
theorem i_152_206 : t_ins 152 206 = some (.bipush 40) := by decide +kernel
theorem i_152_208 : t_ins 152 208 = some (.bipush 41) := by decide +kernel
theorem i_152_210 : t_ins 152 210 = some (.multianewarray 46 2) := by decide +kernel
theorem i_152_214 : t_ins 152 214 = some (.putfield 88) := by decide +kernel
theorem i_152_217 : t_ins 152 217 = some (.aload_n 0) := by decide +kernel
theorem i_152_218 : t_ins 152 218 = some (.bipush 40) := by decide +kernel
theorem i_152_220 : t_ins 152 220 = some (.bipush 41) := by decide +kernel
theorem i_152_222 : t_ins 152 222 = some (.multianewarray 46 2) := by decide +kernel
theorem i_152_226 : t_ins 152 226 = some (.putfield 91) := by decide +kernel
theorem i_152_229 : t_ins 152 229 = some (.aload_n 0) := by decide +kernel
theorem i_152_230 : t_ins 152 230 = some (.bipush 41) := by decide +kernel
theorem i_152_232 : t_ins 152 232 = some (.newarray .int) := by decide +kernel
theorem i_152_234 : t_ins 152 234 = some (.putfield 94) := by decide +kernel
theorem i_152_237 : t_ins 152 237 = some (.aload_n 0) := by decide +kernel
theorem i_152_238 : t_ins 152 238 = some (.bipush 41) := by decide +kernel
theorem i_152_240 : t_ins 152 240 = some (.newarray .int) := by decide +kernel
theorem i_152_242 : t_ins 152 242 = some (.putfield 97) := by decide +kernel
theorem i_152_245 : t_ins 152 245 = some (.aload_n 0) := by decide +kernel
theorem i_152_246 : t_ins 152 246 = some (.bipush 41) := by decide +kernel
theorem i_152_248 : t_ins 152 248 = some (.newarray .long) := by decide +kernel
theorem i_152_250 : t_ins 152 250 = some (.putfield 100) := by decide +kernel
theorem i_152_253 : t_ins 152 253 = some (.aload_n 0) := by decide +kernel
theorem i_152_254 : t_ins 152 254 = some (.bipush 101) := by decide +kernel
theorem i_152_256 : t_ins 152 256 = some (.newarray .boolean) := by decide +kernel
theorem i_152_258 : t_ins 152 258 = some (.putfield 104) := by decide +kernel
theorem i_152_261 : t_ins 152 261 = some (.aload_n 0) := by decide +kernel
theorem i_152_262 : t_ins 152 262 = some (.ldc 108) := by decide +kernel
theorem i_152_264 : t_ins 152 264 = some (.newarray .int) := by decide +kernel
theorem i_152_266 : t_ins 152 266 = some (.putfield 109) := by decide +kernel
theorem i_152_269 : t_ins 152 269 = some (.aload_n 0) := by decide +kernel
theorem i_152_270 : t_ins 152 270 = some (.ldc 108) := by decide +kernel
theorem i_152_272 : t_ins 152 272 = some (.newarray .int) := by decide +kernel
theorem i_152_274 : t_ins 152 274 = some (.putfield 112) := by decide +kernel
theorem i_152_277 : t_ins 152 277 = some (.aload_n 0) := by decide +kernel
theorem i_152_278 : t_ins 152 278 = some (.ldc 108) := by decide +kernel
theorem i_152_280 : t_ins 152 280 = some (.newarray .int) := by decide +kernel
theorem i_152_282 : t_ins 152 282 = some (.putfield 115) := by decide +kernel
theorem i_152_285 : t_ins 152 285 = some (.aload_n 0) := by decide +kernel
theorem i_152_286 : t_ins 152 286 = some (.ldc 108) := by decide +kernel
theorem i_152_288 : t_ins 152 288 = some (.newarray .int) := by decide +kernel
theorem i_152_290 : t_ins 152 290 = some (.putfield 118) := by decide +kernel
theorem i_152_293 : t_ins 152 293 = some (.return_) := by decide +kernel
theorem q_152_0 : XX d 152 0 [some (.ref a)] st A Q ↔ XX d 152 1 [some (.ref a)] (.ref a :: st) A Q := c_lcl i_152_0 rfl rfl
theorem q_152_4 : XX d 152 4 [some (.ref a)] st A Q ↔ XX d 152 5 [some (.ref a)] (.ref a :: st) A Q := c_lcl i_152_4 rfl rfl
theorem q_152_5 : XX d 152 5 [v0] st A Q ↔ XX d 152 6 [v0] (.int (w 2) :: st) A Q := c_stk i_152_5 rfl
theorem q_152_11 : XX d 152 11 [some (.ref a)] st A Q ↔ XX d 152 12 [some (.ref a)] (.ref a :: st) A Q := c_lcl i_152_11 rfl rfl
theorem q_152_12 : XX d 152 12 [v0] st A Q ↔ XX d 152 13 [v0] (.int (w (-1)) :: st) A Q := c_stk i_152_12 rfl
theorem q_152_16 : XX d 152 16 [some (.ref a)] st A Q ↔ XX d 152 17 [some (.ref a)] (.ref a :: st) A Q := c_lcl i_152_16 rfl rfl
theorem q_152_17 : XX d 152 17 [v0] st A Q ↔ XX d 152 20 [v0] (.int (w 400) :: st) A Q := c_stk i_152_17 rfl
theorem q_152_25 : XX d 152 25 [some (.ref a)] st A Q ↔ XX d 152 26 [some (.ref a)] (.ref a :: st) A Q := c_lcl i_152_25 rfl rfl
theorem q_152_26 : XX d 152 26 [v0] st A Q ↔ XX d 152 28 [v0] (.int (w 27) :: st) A Q := c_stk i_152_26 rfl
theorem q_152_33 : XX d 152 33 [some (.ref a)] st A Q ↔ XX d 152 34 [some (.ref a)] (.ref a :: st) A Q := c_lcl i_152_33 rfl rfl
theorem q_152_34 : XX d 152 34 [v0] st A Q ↔ XX d 152 36 [v0] (.int (w 12) :: st) A Q := c_stk i_152_34 rfl
theorem q_152_41 : XX d 152 41 [some (.ref a)] st A Q ↔ XX d 152 42 [some (.ref a)] (.ref a :: st) A Q := c_lcl i_152_41 rfl rfl
theorem q_152_42 : XX d 152 42 [v0] st A Q ↔ XX d 152 44 [v0] (.int (w 27) :: st) A Q := c_stk i_152_42 rfl
theorem q_152_44 : XX d 152 44 [v0] st A Q ↔ XX d 152 46 [v0] (.int (w 30) :: st) A Q := c_stk i_152_44 rfl
theorem q_152_46 : XX d 152 46 [v0] st A Q ↔ XX d 152 48 [v0] (.int (w 17) :: st) A Q := c_stk i_152_46 rfl
theorem q_152_55 : XX d 152 55 [some (.ref a)] st A Q ↔ XX d 152 56 [some (.ref a)] (.ref a :: st) A Q := c_lcl i_152_55 rfl rfl
theorem q_152_56 : XX d 152 56 [v0] st A Q ↔ XX d 152 58 [v0] (.int (w 27) :: st) A Q := c_stk i_152_56 rfl
theorem q_152_58 : XX d 152 58 [v0] st A Q ↔ XX d 152 60 [v0] (.int (w 30) :: st) A Q := c_stk i_152_58 rfl
theorem q_152_60 : XX d 152 60 [v0] st A Q ↔ XX d 152 62 [v0] (.int (w 6) :: st) A Q := c_stk i_152_60 rfl
theorem q_152_62 : XX d 152 62 [v0] st A Q ↔ XX d 152 64 [v0] (.int (w 8) :: st) A Q := c_stk i_152_62 rfl
theorem q_152_71 : XX d 152 71 [some (.ref a)] st A Q ↔ XX d 152 72 [some (.ref a)] (.ref a :: st) A Q := c_lcl i_152_71 rfl rfl
theorem q_152_72 : XX d 152 72 [v0] st A Q ↔ XX d 152 74 [v0] (.int (w 100) :: st) A Q := c_stk i_152_72 rfl
theorem q_152_77 : XX d 152 77 [some (.ref a)] st A Q ↔ XX d 152 78 [some (.ref a)] (.ref a :: st) A Q := c_lcl i_152_77 rfl rfl
theorem q_152_78 : XX d 152 78 [v0] st A Q ↔ XX d 152 81 [v0] (.int (w 3070) :: st) A Q := c_stk i_152_78 rfl
theorem q_152_86 : XX d 152 86 [some (.ref a)] st A Q ↔ XX d 152 87 [some (.ref a)] (.ref a :: st) A Q := c_lcl i_152_86 rfl rfl
theorem q_152_87 : XX d 152 87 [v0] st A Q ↔ XX d 152 89 [v0] (.int (w 31) :: st) A Q := c_stk i_152_87 rfl
theorem q_152_94 : XX d 152 94 [some (.ref a)] st A Q ↔ XX d 152 95 [some (.ref a)] (.ref a :: st) A Q := c_lcl i_152_94 rfl rfl
theorem q_152_95 : XX d 152 95 [v0] st A Q ↔ XX d 152 97 [v0] (.int (w 33) :: st) A Q := c_stk i_152_95 rfl
theorem q_152_97 : XX d 152 97 [v0] st A Q ↔ XX d 152 98 [v0] (.int (w 4) :: st) A Q := c_stk i_152_97 rfl
theorem q_152_105 : XX d 152 105 [some (.ref a)] st A Q ↔ XX d 152 106 [some (.ref a)] (.ref a :: st) A Q := c_lcl i_152_105 rfl rfl
theorem q_152_106 : XX d 152 106 [v0] st A Q ↔ XX d 152 107 [v0] (.int (w (-1)) :: st) A Q := c_stk i_152_106 rfl
theorem q_152_110 : XX d 152 110 [some (.ref a)] st A Q ↔ XX d 152 111 [some (.ref a)] (.ref a :: st) A Q := c_lcl i_152_110 rfl rfl
theorem q_152_111 : XX d 152 111 [v0] st A Q ↔ XX d 152 113 [v0] (.int (w 100100) :: st) A Q := r_ldc i_152_111 rfl
theorem q_152_118 : XX d 152 118 [some (.ref a)] st A Q ↔ XX d 152 119 [some (.ref a)] (.ref a :: st) A Q := c_lcl i_152_118 rfl rfl
theorem q_152_119 : XX d 152 119 [v0] st A Q ↔ XX d 152 122 [v0] (.int (w 1001) :: st) A Q := c_stk i_152_119 rfl
theorem q_152_127 : XX d 152 127 [some (.ref a)] st A Q ↔ XX d 152 128 [some (.ref a)] (.ref a :: st) A Q := c_lcl i_152_127 rfl rfl
theorem q_152_128 : XX d 152 128 [v0] st A Q ↔ XX d 152 131 [v0] (.int (w 1001) :: st) A Q := c_stk i_152_128 rfl
theorem q_152_136 : XX d 152 136 [some (.ref a)] st A Q ↔ XX d 152 137 [some (.ref a)] (.ref a :: st) A Q := c_lcl i_152_136 rfl rfl
theorem q_152_137 : XX d 152 137 [v0] st A Q ↔ XX d 152 139 [v0] (.int (w 100100) :: st) A Q := r_ldc i_152_137 rfl
theorem q_152_144 : XX d 152 144 [some (.ref a)] st A Q ↔ XX d 152 145 [some (.ref a)] (.ref a :: st) A Q := c_lcl i_152_144 rfl rfl
theorem q_152_145 : XX d 152 145 [v0] st A Q ↔ XX d 152 148 [v0] (.int (w 1001) :: st) A Q := c_stk i_152_145 rfl
theorem q_152_153 : XX d 152 153 [some (.ref a)] st A Q ↔ XX d 152 154 [some (.ref a)] (.ref a :: st) A Q := c_lcl i_152_153 rfl rfl
theorem q_152_154 : XX d 152 154 [v0] st A Q ↔ XX d 152 157 [v0] (.int (w 1001) :: st) A Q := c_stk i_152_154 rfl
theorem q_152_162 : XX d 152 162 [some (.ref a)] st A Q ↔ XX d 152 163 [some (.ref a)] (.ref a :: st) A Q := c_lcl i_152_162 rfl rfl
theorem q_152_163 : XX d 152 163 [v0] st A Q ↔ XX d 152 166 [v0] (.int (w 1001) :: st) A Q := c_stk i_152_163 rfl
theorem q_152_171 : XX d 152 171 [some (.ref a)] st A Q ↔ XX d 152 172 [some (.ref a)] (.ref a :: st) A Q := c_lcl i_152_171 rfl rfl
theorem q_152_172 : XX d 152 172 [v0] st A Q ↔ XX d 152 175 [v0] (.int (w 1001) :: st) A Q := c_stk i_152_172 rfl
theorem q_152_180 : XX d 152 180 [some (.ref a)] st A Q ↔ XX d 152 181 [some (.ref a)] (.ref a :: st) A Q := c_lcl i_152_180 rfl rfl
theorem q_152_181 : XX d 152 181 [v0] st A Q ↔ XX d 152 184 [v0] (.int (w 400) :: st) A Q := c_stk i_152_181 rfl
theorem q_152_189 : XX d 152 189 [some (.ref a)] st A Q ↔ XX d 152 190 [some (.ref a)] (.ref a :: st) A Q := c_lcl i_152_189 rfl rfl
theorem q_152_190 : XX d 152 190 [v0] st A Q ↔ XX d 152 192 [v0] (.int (w 41) :: st) A Q := c_stk i_152_190 rfl
theorem q_152_197 : XX d 152 197 [some (.ref a)] st A Q ↔ XX d 152 198 [some (.ref a)] (.ref a :: st) A Q := c_lcl i_152_197 rfl rfl
theorem q_152_198 : XX d 152 198 [v0] st A Q ↔ XX d 152 200 [v0] (.int (w 41) :: st) A Q := c_stk i_152_198 rfl
theorem q_152_205 : XX d 152 205 [some (.ref a)] st A Q ↔ XX d 152 206 [some (.ref a)] (.ref a :: st) A Q := c_lcl i_152_205 rfl rfl
theorem q_152_206 : XX d 152 206 [v0] st A Q ↔ XX d 152 208 [v0] (.int (w 40) :: st) A Q := c_stk i_152_206 rfl
theorem q_152_208 : XX d 152 208 [v0] st A Q ↔ XX d 152 210 [v0] (.int (w 41) :: st) A Q := c_stk i_152_208 rfl
theorem q_152_217 : XX d 152 217 [some (.ref a)] st A Q ↔ XX d 152 218 [some (.ref a)] (.ref a :: st) A Q := c_lcl i_152_217 rfl rfl
theorem q_152_218 : XX d 152 218 [v0] st A Q ↔ XX d 152 220 [v0] (.int (w 40) :: st) A Q := c_stk i_152_218 rfl
theorem q_152_220 : XX d 152 220 [v0] st A Q ↔ XX d 152 222 [v0] (.int (w 41) :: st) A Q := c_stk i_152_220 rfl
theorem q_152_229 : XX d 152 229 [some (.ref a)] st A Q ↔ XX d 152 230 [some (.ref a)] (.ref a :: st) A Q := c_lcl i_152_229 rfl rfl
theorem q_152_230 : XX d 152 230 [v0] st A Q ↔ XX d 152 232 [v0] (.int (w 41) :: st) A Q := c_stk i_152_230 rfl
theorem q_152_237 : XX d 152 237 [some (.ref a)] st A Q ↔ XX d 152 238 [some (.ref a)] (.ref a :: st) A Q := c_lcl i_152_237 rfl rfl
theorem q_152_238 : XX d 152 238 [v0] st A Q ↔ XX d 152 240 [v0] (.int (w 41) :: st) A Q := c_stk i_152_238 rfl
theorem q_152_245 : XX d 152 245 [some (.ref a)] st A Q ↔ XX d 152 246 [some (.ref a)] (.ref a :: st) A Q := c_lcl i_152_245 rfl rfl
theorem q_152_246 : XX d 152 246 [v0] st A Q ↔ XX d 152 248 [v0] (.int (w 41) :: st) A Q := c_stk i_152_246 rfl
theorem q_152_253 : XX d 152 253 [some (.ref a)] st A Q ↔ XX d 152 254 [some (.ref a)] (.ref a :: st) A Q := c_lcl i_152_253 rfl rfl
theorem q_152_254 : XX d 152 254 [v0] st A Q ↔ XX d 152 256 [v0] (.int (w 101) :: st) A Q := c_stk i_152_254 rfl
theorem q_152_261 : XX d 152 261 [some (.ref a)] st A Q ↔ XX d 152 262 [some (.ref a)] (.ref a :: st) A Q := c_lcl i_152_261 rfl rfl
theorem q_152_262 : XX d 152 262 [v0] st A Q ↔ XX d 152 264 [v0] (.int (w 50052) :: st) A Q := r_ldc i_152_262 rfl
theorem q_152_269 : XX d 152 269 [some (.ref a)] st A Q ↔ XX d 152 270 [some (.ref a)] (.ref a :: st) A Q := c_lcl i_152_269 rfl rfl
theorem q_152_270 : XX d 152 270 [v0] st A Q ↔ XX d 152 272 [v0] (.int (w 50052) :: st) A Q := r_ldc i_152_270 rfl
theorem q_152_277 : XX d 152 277 [some (.ref a)] st A Q ↔ XX d 152 278 [some (.ref a)] (.ref a :: st) A Q := c_lcl i_152_277 rfl rfl
theorem q_152_278 : XX d 152 278 [v0] st A Q ↔ XX d 152 280 [v0] (.int (w 50052) :: st) A Q := r_ldc i_152_278 rfl
theorem q_152_285 : XX d 152 285 [some (.ref a)] st A Q ↔ XX d 152 286 [some (.ref a)] (.ref a :: st) A Q := c_lcl i_152_285 rfl rfl
theorem q_152_286 : XX d 152 286 [v0] st A Q ↔ XX d 152 288 [v0] (.int (w 50052) :: st) A Q := r_ldc i_152_286 rfl
theorem q_152_293 : XX d 152 293 [v0] [] A Q ↔ Q (.inl none) A := e_retN i_152_293 rfl
theorem q_152_e : XC d 152 [.ref a0] A Q ↔ XX d 152 0 [some (.ref a0)] [] A Q := Iff.rfl
theorem i_153_0 : t_ins 153 0 = some (.aload_n 0) := by decide +kernel
theorem i_153_1 : t_ins 153 1 = some (.getfield 121) := by decide +kernel
theorem i_153_4 : t_ins 153 4 = some (.ireturn) := by decide +kernel
theorem q_153_0 : XX d 153 0 [some (.ref a)] st A Q ↔ XX d 153 1 [some (.ref a)] (.ref a :: st) A Q := c_lcl i_153_0 rfl rfl
theorem q_153_1 : XX d 153 1 [v0] (.ref a :: st) (mk S I L R G) Q ↔ S a = some (.inr 12) ∧ XX d 153 4 [v0] (.int (I a 0) :: st) (mk S I L R G) Q := r_gf i_153_1 rfl (by decide) rfl
theorem q_153_4 : XX d 153 4 [v0] [.int x] A Q ↔ Q (.inl (some (.int x))) A := e_retI i_153_4 rfl
theorem q_153_e : XC d 153 [.ref a0] A Q ↔ XX d 153 0 [some (.ref a0)] [] A Q := Iff.rfl
theorem i_154_0 : t_ins 154 0 = some (.iload_n 1) := by decide +kernel
theorem i_154_1 : t_ins 154 1 = some (.ifCond .eq 25) := by decide +kernel
theorem i_154_4 : t_ins 154 4 = some (.aload_n 0) := by decide +kernel
theorem i_154_5 : t_ins 154 5 = some (.getfield 121) := by decide +kernel
theorem i_154_8 : t_ins 154 8 = some (.ifCond .ne 18) := by decide +kernel
theorem i_154_11 : t_ins 154 11 = some (.aload_n 0) := by decide +kernel
theorem i_154_12 : t_ins 154 12 = some (.iload_n 2) := by decide +kernel
theorem i_154_13 : t_ins 154 13 = some (.putfield 121) := by decide +kernel
theorem i_154_16 : t_ins 154 16 = some (.aload_n 0) := by decide +kernel
theorem i_154_17 : t_ins 154 17 = some (.getfield 9) := by decide +kernel
theorem i_154_20 : t_ins 154 20 = some (.iload_n 3) := by decide +kernel
theorem i_154_21 : t_ins 154 21 = some (.dup2) := by decide +kernel
theorem i_154_22 : t_ins 154 22 = some (.iaload) := by decide +kernel
theorem i_154_23 : t_ins 154 23 = some (.iconst 1) := by decide +kernel
theorem i_154_24 : t_ins 154 24 = some (.iadd) := by decide +kernel
theorem i_154_25 : t_ins 154 25 = some (.iastore) := by decide +kernel
theorem i_154_26 : t_ins 154 26 = some (.aload_n 0) := by decide +kernel
theorem i_154_27 : t_ins 154 27 = some (.getfield 121) := by decide +kernel
theorem i_154_30 : t_ins 154 30 = some (.ifCond .eq 7) := by decide +kernel
theorem i_154_33 : t_ins 154 33 = some (.iconst 1) := by decide +kernel
theorem i_154_34 : t_ins 154 34 = some (.goto 4) := by decide +kernel
theorem i_154_37 : t_ins 154 37 = some (.iconst 0) := by decide +kernel
theorem i_154_38 : t_ins 154 38 = some (.ireturn) := by decide +kernel
theorem q_154_0 : XX d 154 0 [v0, some (.int x), v2, v3] st A Q ↔ XX d 154 1 [v0, some (.int x), v2, v3] (.int x :: st) A Q := c_lcl i_154_0 rfl rfl
theorem q_154_1 : XX d 154 1 [v0, v1, v2, v3] (.int x :: st) A Q ↔ if x = w 0 then XX d 154 26 [v0, v1, v2, v3] st A Q else XX d 154 4 [v0, v1, v2, v3] st A Q := z_eq i_154_1 rfl rfl rfl
theorem q_154_4 : XX d 154 4 [some (.ref a), v1, v2, v3] st A Q ↔ XX d 154 5 [some (.ref a), v1, v2, v3] (.ref a :: st) A Q := c_lcl i_154_4 rfl rfl
theorem q_154_5 : XX d 154 5 [v0, v1, v2, v3] (.ref a :: st) (mk S I L R G) Q ↔ S a = some (.inr 12) ∧ XX d 154 8 [v0, v1, v2, v3] (.int (I a 0) :: st) (mk S I L R G) Q := r_gf i_154_5 rfl (by decide) rfl
theorem q_154_8 : XX d 154 8 [v0, v1, v2, v3] (.int x :: st) A Q ↔ if x = w 0 then XX d 154 11 [v0, v1, v2, v3] st A Q else XX d 154 26 [v0, v1, v2, v3] st A Q := z_ne i_154_8 rfl rfl rfl
theorem q_154_11 : XX d 154 11 [some (.ref a), v1, v2, v3] st A Q ↔ XX d 154 12 [some (.ref a), v1, v2, v3] (.ref a :: st) A Q := c_lcl i_154_11 rfl rfl
theorem q_154_12 : XX d 154 12 [v0, v1, some (.int x), v3] st A Q ↔ XX d 154 13 [v0, v1, some (.int x), v3] (.int x :: st) A Q := c_lcl i_154_12 rfl rfl
theorem q_154_13 : XX d 154 13 [v0, v1, v2, v3] (.int x :: .ref a :: st) (mk S I L R G) Q ↔ S a = some (.inr 12) ∧ XX d 154 16 [v0, v1, v2, v3] st (mk S (wr I a (up (I a) 0 x)) L R G) Q := r_pf i_154_13 rfl (by decide) rfl rfl rfl
theorem q_154_16 : XX d 154 16 [some (.ref a), v1, v2, v3] st A Q ↔ XX d 154 17 [some (.ref a), v1, v2, v3] (.ref a :: st) A Q := c_lcl i_154_16 rfl rfl
theorem q_154_17 : XX d 154 17 [v0, v1, v2, v3] (.ref a :: st) (mk S I L R G) Q ↔ S a = some (.inr 12) ∧ XX d 154 20 [v0, v1, v2, v3] (.ref (a + 1) :: st) (mk S I L R G) Q := r_gf i_154_17 rfl (by decide) rfl
theorem q_154_20 : XX d 154 20 [v0, v1, v2, some (.int x)] st A Q ↔ XX d 154 21 [v0, v1, v2, some (.int x)] (.int x :: st) A Q := c_lcl i_154_20 rfl rfl
theorem q_154_21 : XX d 154 21 [v0, v1, v2, v3] (.int x1 :: .ref a2 :: st) A Q ↔ XX d 154 22 [v0, v1, v2, v3] (.int x1 :: .ref a2 :: .int x1 :: .ref a2 :: st) A Q := c_stk i_154_21 rfl
theorem q_154_22 : XX d 154 22 [v0, v1, v2, v3] (.int x :: .ref a :: st) (mk S I L R G) Q ↔ inA (S a) ok_i x ∧ XX d 154 23 [v0, v1, v2, v3] (.int (I a (ix x)) :: st) (mk S I L R G) Q := r_ia i_154_22
theorem q_154_23 : XX d 154 23 [v0, v1, v2, v3] st A Q ↔ XX d 154 24 [v0, v1, v2, v3] (.int (w 1) :: st) A Q := c_stk i_154_23 rfl
theorem q_154_24 : XX d 154 24 [v0, v1, v2, v3] (.int y :: .int x :: st) A Q ↔ XX d 154 25 [v0, v1, v2, v3] (.int (x + y) :: st) A Q := c_stk i_154_24 rfl
theorem q_154_25 : XX d 154 25 [v0, v1, v2, v3] (.int y :: .int x :: .ref a :: st) (mk S I L R G) Q ↔ inA (S a) ok_0 x ∧ XX d 154 26 [v0, v1, v2, v3] st (mk S (wr I a (up (I a) (ix x) y)) L R G) Q := r_ias i_154_25
theorem q_154_26 : XX d 154 26 [some (.ref a), v1, v2, v3] st A Q ↔ XX d 154 27 [some (.ref a), v1, v2, v3] (.ref a :: st) A Q := c_lcl i_154_26 rfl rfl
theorem q_154_27 : XX d 154 27 [v0, v1, v2, v3] (.ref a :: st) (mk S I L R G) Q ↔ S a = some (.inr 12) ∧ XX d 154 30 [v0, v1, v2, v3] (.int (I a 0) :: st) (mk S I L R G) Q := r_gf i_154_27 rfl (by decide) rfl
theorem q_154_30 : XX d 154 30 [v0, v1, v2, v3] (.int x :: st) A Q ↔ if x = w 0 then XX d 154 37 [v0, v1, v2, v3] st A Q else XX d 154 33 [v0, v1, v2, v3] st A Q := z_eq i_154_30 rfl rfl rfl
theorem q_154_33 : XX d 154 33 [v0, v1, v2, v3] st A Q ↔ XX d 154 34 [v0, v1, v2, v3] (.int (w 1) :: st) A Q := c_stk i_154_33 rfl
theorem q_154_34 : XX d 154 34 [v0, v1, v2, v3] st A Q ↔ XX d 154 38 [v0, v1, v2, v3] st A Q := c_go i_154_34 rfl rfl
theorem q_154_37 : XX d 154 37 [v0, v1, v2, v3] st A Q ↔ XX d 154 38 [v0, v1, v2, v3] (.int (w 0) :: st) A Q := c_stk i_154_37 rfl
theorem q_154_38 : XX d 154 38 [v0, v1, v2, v3] [.int x] A Q ↔ (x = w 0 ∨ x = w 1) ∧ Q (.inl (some (.int x))) A := e_retZ i_154_38 rfl
theorem q_154_e : XC d 154 [.ref a0, .int x1, .int x2, .int x3] A Q ↔ XX d 154 0 [some (.ref a0), some (.int x1), some (.int x2), some (.int x3)] [] A Q := Iff.rfl
theorem i_155_0 : t_ins 155 0 = some (.iload_n 0) := by decide +kernel
theorem i_155_1 : t_ins 155 1 = some (.iload_n 1) := by decide +kernel
theorem i_155_2 : t_ins 155 2 = some (.if_icmp .lt 12) := by decide +kernel
theorem i_155_5 : t_ins 155 5 = some (.iload_n 0) := by decide +kernel
theorem i_155_6 : t_ins 155 6 = some (.iload_n 2) := by decide +kernel
theorem i_155_7 : t_ins 155 7 = some (.if_icmp .gt 7) := by decide +kernel
theorem i_155_10 : t_ins 155 10 = some (.iconst 1) := by decide +kernel
theorem i_155_11 : t_ins 155 11 = some (.goto 4) := by decide +kernel
theorem i_155_14 : t_ins 155 14 = some (.iconst 0) := by decide +kernel
theorem i_155_15 : t_ins 155 15 = some (.ireturn) := by decide +kernel
theorem q_155_0 : XX d 155 0 [some (.int x), v1, v2] st A Q ↔ XX d 155 1 [some (.int x), v1, v2] (.int x :: st) A Q := c_lcl i_155_0 rfl rfl
theorem q_155_1 : XX d 155 1 [v0, some (.int x), v2] st A Q ↔ XX d 155 2 [v0, some (.int x), v2] (.int x :: st) A Q := c_lcl i_155_1 rfl rfl
theorem q_155_2 : XX d 155 2 [v0, v1, v2] (.int y :: .int x :: st) A Q ↔ if x < y then XX d 155 14 [v0, v1, v2] st A Q else XX d 155 5 [v0, v1, v2] st A Q := b_lt i_155_2 rfl rfl rfl
theorem q_155_5 : XX d 155 5 [some (.int x), v1, v2] st A Q ↔ XX d 155 6 [some (.int x), v1, v2] (.int x :: st) A Q := c_lcl i_155_5 rfl rfl
theorem q_155_6 : XX d 155 6 [v0, v1, some (.int x)] st A Q ↔ XX d 155 7 [v0, v1, some (.int x)] (.int x :: st) A Q := c_lcl i_155_6 rfl rfl
theorem q_155_7 : XX d 155 7 [v0, v1, v2] (.int y :: .int x :: st) A Q ↔ if y < x then XX d 155 14 [v0, v1, v2] st A Q else XX d 155 10 [v0, v1, v2] st A Q := b_gt i_155_7 rfl rfl rfl
theorem q_155_10 : XX d 155 10 [v0, v1, v2] st A Q ↔ XX d 155 11 [v0, v1, v2] (.int (w 1) :: st) A Q := c_stk i_155_10 rfl
theorem q_155_11 : XX d 155 11 [v0, v1, v2] st A Q ↔ XX d 155 15 [v0, v1, v2] st A Q := c_go i_155_11 rfl rfl
theorem q_155_14 : XX d 155 14 [v0, v1, v2] st A Q ↔ XX d 155 15 [v0, v1, v2] (.int (w 0) :: st) A Q := c_stk i_155_14 rfl
theorem q_155_15 : XX d 155 15 [v0, v1, v2] [.int x] A Q ↔ (x = w 0 ∨ x = w 1) ∧ Q (.inl (some (.int x))) A := e_retZ i_155_15 rfl
theorem q_155_e : XC d 155 [.int x0, .int x1, .int x2] A Q ↔ XX d 155 0 [some (.int x0), some (.int x1), some (.int x2)] [] A Q := Iff.rfl
theorem i_156_0 : t_ins 156 0 = some (.iload_n 0) := by decide +kernel
theorem i_156_1 : t_ins 156 1 = some (.iload_n 1) := by decide +kernel
theorem i_156_2 : t_ins 156 2 = some (.if_icmp .ge 7) := by decide +kernel
theorem i_156_5 : t_ins 156 5 = some (.iload_n 0) := by decide +kernel
theorem i_156_6 : t_ins 156 6 = some (.goto 4) := by decide +kernel
theorem i_156_9 : t_ins 156 9 = some (.iload_n 1) := by decide +kernel
theorem i_156_10 : t_ins 156 10 = some (.ireturn) := by decide +kernel
theorem q_156_0 : XX d 156 0 [some (.int x), v1] st A Q ↔ XX d 156 1 [some (.int x), v1] (.int x :: st) A Q := c_lcl i_156_0 rfl rfl
theorem q_156_1 : XX d 156 1 [v0, some (.int x)] st A Q ↔ XX d 156 2 [v0, some (.int x)] (.int x :: st) A Q := c_lcl i_156_1 rfl rfl
theorem q_156_2 : XX d 156 2 [v0, v1] (.int y :: .int x :: st) A Q ↔ if x < y then XX d 156 5 [v0, v1] st A Q else XX d 156 9 [v0, v1] st A Q := b_ge i_156_2 rfl rfl rfl
theorem q_156_5 : XX d 156 5 [some (.int x), v1] st A Q ↔ XX d 156 6 [some (.int x), v1] (.int x :: st) A Q := c_lcl i_156_5 rfl rfl
theorem q_156_6 : XX d 156 6 [v0, v1] st A Q ↔ XX d 156 10 [v0, v1] st A Q := c_go i_156_6 rfl rfl
theorem q_156_9 : XX d 156 9 [v0, some (.int x)] st A Q ↔ XX d 156 10 [v0, some (.int x)] (.int x :: st) A Q := c_lcl i_156_9 rfl rfl
theorem q_156_10 : XX d 156 10 [v0, v1] [.int x] A Q ↔ Q (.inl (some (.int x))) A := e_retI i_156_10 rfl
theorem q_156_e : XC d 156 [.int x0, .int x1] A Q ↔ XX d 156 0 [some (.int x0), some (.int x1)] [] A Q := Iff.rfl
theorem i_157_0 : t_ins 157 0 = some (.aload_n 0) := by decide +kernel
theorem i_157_1 : t_ins 157 1 = some (.iconst 0) := by decide +kernel
theorem i_157_2 : t_ins 157 2 = some (.putfield 121) := by decide +kernel
theorem i_157_5 : t_ins 157 5 = some (.aload_n 0) := by decide +kernel
theorem i_157_6 : t_ins 157 6 = some (.getfield 124) := by decide +kernel
theorem i_157_9 : t_ins 157 9 = some (.bipush 20) := by decide +kernel
theorem i_157_11 : t_ins 157 11 = some (.iadd) := by decide +kernel
theorem i_157_12 : t_ins 157 12 = some (.sipush 400) := by decide +kernel
theorem i_157_15 : t_ins 157 15 = some (.if_icmp .le 5) := by decide +kernel
theorem i_157_18 : t_ins 157 18 = some (.iconst (-1)) := by decide +kernel
theorem i_157_19 : t_ins 157 19 = some (.ireturn) := by decide +kernel
theorem i_157_20 : t_ins 157 20 = some (.iconst 0) := by decide +kernel
theorem i_157_21 : t_ins 157 21 = some (.istore 6) := by decide +kernel
theorem i_157_23 : t_ins 157 23 = some (.iload 6) := by decide +kernel
theorem i_157_25 : t_ins 157 25 = some (.bipush 20) := by decide +kernel
theorem i_157_27 : t_ins 157 27 = some (.if_icmp .ge 93) := by decide +kernel
theorem i_157_30 : t_ins 157 30 = some (.iload 6) := by decide +kernel
theorem i_157_32 : t_ins 157 32 = some (.iconst 4) := by decide +kernel
theorem i_157_33 : t_ins 157 33 = some (.if_icmp .ge 7) := by decide +kernel
theorem i_157_36 : t_ins 157 36 = some (.iload_n 1) := by decide +kernel
theorem i_157_37 : t_ins 157 37 = some (.goto 39) := by decide +kernel
theorem i_157_40 : t_ins 157 40 = some (.iload 6) := by decide +kernel
theorem i_157_42 : t_ins 157 42 = some (.bipush 8) := by decide +kernel
theorem i_157_44 : t_ins 157 44 = some (.if_icmp .ge 7) := by decide +kernel
theorem i_157_47 : t_ins 157 47 = some (.iload_n 2) := by decide +kernel
theorem i_157_48 : t_ins 157 48 = some (.goto 28) := by decide +kernel
theorem i_157_51 : t_ins 157 51 = some (.iload 6) := by decide +kernel
theorem i_157_53 : t_ins 157 53 = some (.bipush 12) := by decide +kernel
theorem i_157_55 : t_ins 157 55 = some (.if_icmp .ge 7) := by decide +kernel
theorem i_157_58 : t_ins 157 58 = some (.iload_n 3) := by decide +kernel
theorem i_157_59 : t_ins 157 59 = some (.goto 17) := by decide +kernel
theorem i_157_62 : t_ins 157 62 = some (.iload 6) := by decide +kernel
theorem i_157_64 : t_ins 157 64 = some (.bipush 16) := by decide +kernel
theorem i_157_66 : t_ins 157 66 = some (.if_icmp .ge 8) := by decide +kernel
theorem i_157_69 : t_ins 157 69 = some (.iload 4) := by decide +kernel
theorem i_157_71 : t_ins 157 71 = some (.goto 5) := by decide +kernel
theorem i_157_74 : t_ins 157 74 = some (.iload 5) := by decide +kernel
theorem i_157_76 : t_ins 157 76 = some (.istore 7) := by decide +kernel
theorem i_157_78 : t_ins 157 78 = some (.aload_n 0) := by decide +kernel
theorem i_157_79 : t_ins 157 79 = some (.getfield 17) := by decide +kernel
theorem i_157_82 : t_ins 157 82 = some (.aload_n 0) := by decide +kernel
theorem i_157_83 : t_ins 157 83 = some (.getfield 124) := by decide +kernel
theorem i_157_86 : t_ins 157 86 = some (.iload 7) := by decide +kernel
theorem i_157_88 : t_ins 157 88 = some (.bipush 24) := by decide +kernel
theorem i_157_90 : t_ins 157 90 = some (.bipush 8) := by decide +kernel
theorem i_157_92 : t_ins 157 92 = some (.iload 6) := by decide +kernel
theorem i_157_94 : t_ins 157 94 = some (.iconst 4) := by decide +kernel
theorem i_157_95 : t_ins 157 95 = some (.irem) := by decide +kernel
theorem i_157_96 : t_ins 157 96 = some (.imul) := by decide +kernel
theorem i_157_97 : t_ins 157 97 = some (.isub) := by decide +kernel
theorem i_157_98 : t_ins 157 98 = some (.ishr) := by decide +kernel
theorem i_157_99 : t_ins 157 99 = some (.sipush 255) := by decide +kernel
theorem i_157_102 : t_ins 157 102 = some (.iand) := by decide +kernel
theorem i_157_103 : t_ins 157 103 = some (.iastore) := by decide +kernel
theorem i_157_104 : t_ins 157 104 = some (.aload_n 0) := by decide +kernel
theorem i_157_105 : t_ins 157 105 = some (.dup) := by decide +kernel
theorem i_157_106 : t_ins 157 106 = some (.getfield 124) := by decide +kernel
theorem i_157_109 : t_ins 157 109 = some (.iconst 1) := by decide +kernel
theorem i_157_110 : t_ins 157 110 = some (.iadd) := by decide +kernel
theorem i_157_111 : t_ins 157 111 = some (.putfield 124) := by decide +kernel
theorem i_157_114 : t_ins 157 114 = some (.iinc 6 1) := by decide +kernel
theorem i_157_117 : t_ins 157 117 = some (.goto (-94)) := by decide +kernel
theorem i_157_120 : t_ins 157 120 = some (.aload_n 0) := by decide +kernel
theorem i_157_121 : t_ins 157 121 = some (.getfield 124) := by decide +kernel
theorem i_157_124 : t_ins 157 124 = some (.ireturn) := by decide +kernel
theorem q_157_0 : XX d 157 0 [some (.ref a), v1, v2, v3, v4, v5, v6, v7] st A Q ↔ XX d 157 1 [some (.ref a), v1, v2, v3, v4, v5, v6, v7] (.ref a :: st) A Q := c_lcl i_157_0 rfl rfl
theorem q_157_1 : XX d 157 1 [v0, v1, v2, v3, v4, v5, v6, v7] st A Q ↔ XX d 157 2 [v0, v1, v2, v3, v4, v5, v6, v7] (.int (w 0) :: st) A Q := c_stk i_157_1 rfl
theorem q_157_2 : XX d 157 2 [v0, v1, v2, v3, v4, v5, v6, v7] (.int x :: .ref a :: st) (mk S I L R G) Q ↔ S a = some (.inr 12) ∧ XX d 157 5 [v0, v1, v2, v3, v4, v5, v6, v7] st (mk S (wr I a (up (I a) 0 x)) L R G) Q := r_pf i_157_2 rfl (by decide) rfl rfl rfl
theorem q_157_5 : XX d 157 5 [some (.ref a), v1, v2, v3, v4, v5, v6, v7] st A Q ↔ XX d 157 6 [some (.ref a), v1, v2, v3, v4, v5, v6, v7] (.ref a :: st) A Q := c_lcl i_157_5 rfl rfl
theorem q_157_6 : XX d 157 6 [v0, v1, v2, v3, v4, v5, v6, v7] (.ref a :: st) (mk S I L R G) Q ↔ S a = some (.inr 12) ∧ XX d 157 9 [v0, v1, v2, v3, v4, v5, v6, v7] (.int (I a 2) :: st) (mk S I L R G) Q := r_gf i_157_6 rfl (by decide) rfl
theorem q_157_9 : XX d 157 9 [v0, v1, v2, v3, v4, v5, v6, v7] st A Q ↔ XX d 157 11 [v0, v1, v2, v3, v4, v5, v6, v7] (.int (w 20) :: st) A Q := c_stk i_157_9 rfl
theorem q_157_11 : XX d 157 11 [v0, v1, v2, v3, v4, v5, v6, v7] (.int y :: .int x :: st) A Q ↔ XX d 157 12 [v0, v1, v2, v3, v4, v5, v6, v7] (.int (x + y) :: st) A Q := c_stk i_157_11 rfl
theorem q_157_12 : XX d 157 12 [v0, v1, v2, v3, v4, v5, v6, v7] st A Q ↔ XX d 157 15 [v0, v1, v2, v3, v4, v5, v6, v7] (.int (w 400) :: st) A Q := c_stk i_157_12 rfl
theorem q_157_15 : XX d 157 15 [v0, v1, v2, v3, v4, v5, v6, v7] (.int y :: .int x :: st) A Q ↔ if y < x then XX d 157 18 [v0, v1, v2, v3, v4, v5, v6, v7] st A Q else XX d 157 20 [v0, v1, v2, v3, v4, v5, v6, v7] st A Q := b_le i_157_15 rfl rfl rfl
theorem q_157_18 : XX d 157 18 [v0, v1, v2, v3, v4, v5, v6, v7] st A Q ↔ XX d 157 19 [v0, v1, v2, v3, v4, v5, v6, v7] (.int (w (-1)) :: st) A Q := c_stk i_157_18 rfl
theorem q_157_19 : XX d 157 19 [v0, v1, v2, v3, v4, v5, v6, v7] [.int x] A Q ↔ Q (.inl (some (.int x))) A := e_retI i_157_19 rfl
theorem q_157_20 : XX d 157 20 [v0, v1, v2, v3, v4, v5, v6, v7] st A Q ↔ XX d 157 21 [v0, v1, v2, v3, v4, v5, v6, v7] (.int (w 0) :: st) A Q := c_stk i_157_20 rfl
theorem q_157_21 : XX d 157 21 [v0, v1, v2, v3, v4, some (.int z), v6, v7] (.int x :: st) A Q ↔ XX d 157 23 [v0, v1, v2, v3, v4, some (.int z), some (.int x), v7] st A Q := c_lcl i_157_21 rfl rfl
theorem q_157_23 : XX d 157 23 [v0, v1, v2, v3, v4, v5, some (.int x), v7] st A Q ↔ XX d 157 25 [v0, v1, v2, v3, v4, v5, some (.int x), v7] (.int x :: st) A Q := c_lcl i_157_23 rfl rfl
theorem q_157_25 : XX d 157 25 [v0, v1, v2, v3, v4, v5, v6, v7] st A Q ↔ XX d 157 27 [v0, v1, v2, v3, v4, v5, v6, v7] (.int (w 20) :: st) A Q := c_stk i_157_25 rfl
theorem q_157_27 : XX d 157 27 [v0, v1, v2, v3, v4, v5, v6, v7] (.int y :: .int x :: st) A Q ↔ if x < y then XX d 157 30 [v0, v1, v2, v3, v4, v5, v6, v7] st A Q else XX d 157 120 [v0, v1, v2, v3, v4, v5, v6, v7] st A Q := b_ge i_157_27 rfl rfl rfl
theorem q_157_30 : XX d 157 30 [v0, v1, v2, v3, v4, v5, some (.int x), v7] st A Q ↔ XX d 157 32 [v0, v1, v2, v3, v4, v5, some (.int x), v7] (.int x :: st) A Q := c_lcl i_157_30 rfl rfl
theorem q_157_32 : XX d 157 32 [v0, v1, v2, v3, v4, v5, v6, v7] st A Q ↔ XX d 157 33 [v0, v1, v2, v3, v4, v5, v6, v7] (.int (w 4) :: st) A Q := c_stk i_157_32 rfl
theorem q_157_33 : XX d 157 33 [v0, v1, v2, v3, v4, v5, v6, v7] (.int y :: .int x :: st) A Q ↔ if x < y then XX d 157 36 [v0, v1, v2, v3, v4, v5, v6, v7] st A Q else XX d 157 40 [v0, v1, v2, v3, v4, v5, v6, v7] st A Q := b_ge i_157_33 rfl rfl rfl
theorem q_157_36 : XX d 157 36 [v0, some (.int x), v2, v3, v4, v5, v6, v7] st A Q ↔ XX d 157 37 [v0, some (.int x), v2, v3, v4, v5, v6, v7] (.int x :: st) A Q := c_lcl i_157_36 rfl rfl
theorem q_157_37 : XX d 157 37 [v0, v1, v2, v3, v4, v5, v6, v7] st A Q ↔ XX d 157 76 [v0, v1, v2, v3, v4, v5, v6, v7] st A Q := c_go i_157_37 rfl rfl
theorem q_157_40 : XX d 157 40 [v0, v1, v2, v3, v4, v5, some (.int x), v7] st A Q ↔ XX d 157 42 [v0, v1, v2, v3, v4, v5, some (.int x), v7] (.int x :: st) A Q := c_lcl i_157_40 rfl rfl
theorem q_157_42 : XX d 157 42 [v0, v1, v2, v3, v4, v5, v6, v7] st A Q ↔ XX d 157 44 [v0, v1, v2, v3, v4, v5, v6, v7] (.int (w 8) :: st) A Q := c_stk i_157_42 rfl
theorem q_157_44 : XX d 157 44 [v0, v1, v2, v3, v4, v5, v6, v7] (.int y :: .int x :: st) A Q ↔ if x < y then XX d 157 47 [v0, v1, v2, v3, v4, v5, v6, v7] st A Q else XX d 157 51 [v0, v1, v2, v3, v4, v5, v6, v7] st A Q := b_ge i_157_44 rfl rfl rfl
theorem q_157_47 : XX d 157 47 [v0, v1, some (.int x), v3, v4, v5, v6, v7] st A Q ↔ XX d 157 48 [v0, v1, some (.int x), v3, v4, v5, v6, v7] (.int x :: st) A Q := c_lcl i_157_47 rfl rfl
theorem q_157_48 : XX d 157 48 [v0, v1, v2, v3, v4, v5, v6, v7] st A Q ↔ XX d 157 76 [v0, v1, v2, v3, v4, v5, v6, v7] st A Q := c_go i_157_48 rfl rfl
theorem q_157_51 : XX d 157 51 [v0, v1, v2, v3, v4, v5, some (.int x), v7] st A Q ↔ XX d 157 53 [v0, v1, v2, v3, v4, v5, some (.int x), v7] (.int x :: st) A Q := c_lcl i_157_51 rfl rfl
theorem q_157_53 : XX d 157 53 [v0, v1, v2, v3, v4, v5, v6, v7] st A Q ↔ XX d 157 55 [v0, v1, v2, v3, v4, v5, v6, v7] (.int (w 12) :: st) A Q := c_stk i_157_53 rfl
theorem q_157_55 : XX d 157 55 [v0, v1, v2, v3, v4, v5, v6, v7] (.int y :: .int x :: st) A Q ↔ if x < y then XX d 157 58 [v0, v1, v2, v3, v4, v5, v6, v7] st A Q else XX d 157 62 [v0, v1, v2, v3, v4, v5, v6, v7] st A Q := b_ge i_157_55 rfl rfl rfl
theorem q_157_58 : XX d 157 58 [v0, v1, v2, some (.int x), v4, v5, v6, v7] st A Q ↔ XX d 157 59 [v0, v1, v2, some (.int x), v4, v5, v6, v7] (.int x :: st) A Q := c_lcl i_157_58 rfl rfl
theorem q_157_59 : XX d 157 59 [v0, v1, v2, v3, v4, v5, v6, v7] st A Q ↔ XX d 157 76 [v0, v1, v2, v3, v4, v5, v6, v7] st A Q := c_go i_157_59 rfl rfl
theorem q_157_62 : XX d 157 62 [v0, v1, v2, v3, v4, v5, some (.int x), v7] st A Q ↔ XX d 157 64 [v0, v1, v2, v3, v4, v5, some (.int x), v7] (.int x :: st) A Q := c_lcl i_157_62 rfl rfl
theorem q_157_64 : XX d 157 64 [v0, v1, v2, v3, v4, v5, v6, v7] st A Q ↔ XX d 157 66 [v0, v1, v2, v3, v4, v5, v6, v7] (.int (w 16) :: st) A Q := c_stk i_157_64 rfl
theorem q_157_66 : XX d 157 66 [v0, v1, v2, v3, v4, v5, v6, v7] (.int y :: .int x :: st) A Q ↔ if x < y then XX d 157 69 [v0, v1, v2, v3, v4, v5, v6, v7] st A Q else XX d 157 74 [v0, v1, v2, v3, v4, v5, v6, v7] st A Q := b_ge i_157_66 rfl rfl rfl
theorem q_157_69 : XX d 157 69 [v0, v1, v2, v3, some (.int x), v5, v6, v7] st A Q ↔ XX d 157 71 [v0, v1, v2, v3, some (.int x), v5, v6, v7] (.int x :: st) A Q := c_lcl i_157_69 rfl rfl
theorem q_157_71 : XX d 157 71 [v0, v1, v2, v3, v4, v5, v6, v7] st A Q ↔ XX d 157 76 [v0, v1, v2, v3, v4, v5, v6, v7] st A Q := c_go i_157_71 rfl rfl
theorem q_157_74 : XX d 157 74 [v0, v1, v2, v3, v4, some (.int x), v6, v7] st A Q ↔ XX d 157 76 [v0, v1, v2, v3, v4, some (.int x), v6, v7] (.int x :: st) A Q := c_lcl i_157_74 rfl rfl
theorem q_157_76 : XX d 157 76 [v0, v1, v2, v3, v4, v5, some (.int z), v7] (.int x :: st) A Q ↔ XX d 157 78 [v0, v1, v2, v3, v4, v5, some (.int z), some (.int x)] st A Q := c_lcl i_157_76 rfl rfl
theorem q_157_78 : XX d 157 78 [some (.ref a), v1, v2, v3, v4, v5, v6, v7] st A Q ↔ XX d 157 79 [some (.ref a), v1, v2, v3, v4, v5, v6, v7] (.ref a :: st) A Q := c_lcl i_157_78 rfl rfl
theorem q_157_79 : XX d 157 79 [v0, v1, v2, v3, v4, v5, v6, v7] (.ref a :: st) (mk S I L R G) Q ↔ S a = some (.inr 12) ∧ XX d 157 82 [v0, v1, v2, v3, v4, v5, v6, v7] (.ref (a + 2) :: st) (mk S I L R G) Q := r_gf i_157_79 rfl (by decide) rfl
theorem q_157_82 : XX d 157 82 [some (.ref a), v1, v2, v3, v4, v5, v6, v7] st A Q ↔ XX d 157 83 [some (.ref a), v1, v2, v3, v4, v5, v6, v7] (.ref a :: st) A Q := c_lcl i_157_82 rfl rfl
theorem q_157_83 : XX d 157 83 [v0, v1, v2, v3, v4, v5, v6, v7] (.ref a :: st) (mk S I L R G) Q ↔ S a = some (.inr 12) ∧ XX d 157 86 [v0, v1, v2, v3, v4, v5, v6, v7] (.int (I a 2) :: st) (mk S I L R G) Q := r_gf i_157_83 rfl (by decide) rfl
theorem q_157_86 : XX d 157 86 [v0, v1, v2, v3, v4, v5, v6, some (.int x)] st A Q ↔ XX d 157 88 [v0, v1, v2, v3, v4, v5, v6, some (.int x)] (.int x :: st) A Q := c_lcl i_157_86 rfl rfl
theorem q_157_88 : XX d 157 88 [v0, v1, v2, v3, v4, v5, v6, v7] st A Q ↔ XX d 157 90 [v0, v1, v2, v3, v4, v5, v6, v7] (.int (w 24) :: st) A Q := c_stk i_157_88 rfl
theorem q_157_90 : XX d 157 90 [v0, v1, v2, v3, v4, v5, v6, v7] st A Q ↔ XX d 157 92 [v0, v1, v2, v3, v4, v5, v6, v7] (.int (w 8) :: st) A Q := c_stk i_157_90 rfl
theorem q_157_92 : XX d 157 92 [v0, v1, v2, v3, v4, v5, some (.int x), v7] st A Q ↔ XX d 157 94 [v0, v1, v2, v3, v4, v5, some (.int x), v7] (.int x :: st) A Q := c_lcl i_157_92 rfl rfl
theorem q_157_94 : XX d 157 94 [v0, v1, v2, v3, v4, v5, v6, v7] st A Q ↔ XX d 157 95 [v0, v1, v2, v3, v4, v5, v6, v7] (.int (w 4) :: st) A Q := c_stk i_157_94 rfl
theorem q_157_95 : XX d 157 95 [v0, v1, v2, v3, v4, v5, v6, v7] (.int y :: .int x :: st) A Q ↔ ¬ y = w 0 ∧ XX d 157 96 [v0, v1, v2, v3, v4, v5, v6, v7] (.int (x - x / y * y) :: st) A Q := c_rem i_157_95
theorem q_157_96 : XX d 157 96 [v0, v1, v2, v3, v4, v5, v6, v7] (.int y :: .int x :: st) A Q ↔ XX d 157 97 [v0, v1, v2, v3, v4, v5, v6, v7] (.int (x * y) :: st) A Q := c_stk i_157_96 rfl
theorem q_157_97 : XX d 157 97 [v0, v1, v2, v3, v4, v5, v6, v7] (.int y :: .int x :: st) A Q ↔ XX d 157 98 [v0, v1, v2, v3, v4, v5, v6, v7] (.int (x - y) :: st) A Q := c_stk i_157_97 rfl
theorem q_157_98 : XX d 157 98 [v0, v1, v2, v3, v4, v5, v6, v7] (.int y :: .int x :: st) A Q ↔ XX d 157 99 [v0, v1, v2, v3, v4, v5, v6, v7] (.int (x >>> (y &&& 31)) :: st) A Q := c_stk i_157_98 rfl
theorem q_157_99 : XX d 157 99 [v0, v1, v2, v3, v4, v5, v6, v7] st A Q ↔ XX d 157 102 [v0, v1, v2, v3, v4, v5, v6, v7] (.int (w 255) :: st) A Q := c_stk i_157_99 rfl
theorem q_157_102 : XX d 157 102 [v0, v1, v2, v3, v4, v5, v6, v7] (.int y :: .int x :: st) A Q ↔ XX d 157 103 [v0, v1, v2, v3, v4, v5, v6, v7] (.int (x &&& y) :: st) A Q := c_stk i_157_102 rfl
theorem q_157_103 : XX d 157 103 [v0, v1, v2, v3, v4, v5, v6, v7] (.int y :: .int x :: .ref a :: st) (mk S I L R G) Q ↔ inA (S a) ok_0 x ∧ XX d 157 104 [v0, v1, v2, v3, v4, v5, v6, v7] st (mk S (wr I a (up (I a) (ix x) y)) L R G) Q := r_ias i_157_103
theorem q_157_104 : XX d 157 104 [some (.ref a), v1, v2, v3, v4, v5, v6, v7] st A Q ↔ XX d 157 105 [some (.ref a), v1, v2, v3, v4, v5, v6, v7] (.ref a :: st) A Q := c_lcl i_157_104 rfl rfl
theorem q_157_105 : XX d 157 105 [v0, v1, v2, v3, v4, v5, v6, v7] (.ref a1 :: st) A Q ↔ XX d 157 106 [v0, v1, v2, v3, v4, v5, v6, v7] (.ref a1 :: .ref a1 :: st) A Q := c_stk i_157_105 rfl
theorem q_157_106 : XX d 157 106 [v0, v1, v2, v3, v4, v5, v6, v7] (.ref a :: st) (mk S I L R G) Q ↔ S a = some (.inr 12) ∧ XX d 157 109 [v0, v1, v2, v3, v4, v5, v6, v7] (.int (I a 2) :: st) (mk S I L R G) Q := r_gf i_157_106 rfl (by decide) rfl
theorem q_157_109 : XX d 157 109 [v0, v1, v2, v3, v4, v5, v6, v7] st A Q ↔ XX d 157 110 [v0, v1, v2, v3, v4, v5, v6, v7] (.int (w 1) :: st) A Q := c_stk i_157_109 rfl
theorem q_157_110 : XX d 157 110 [v0, v1, v2, v3, v4, v5, v6, v7] (.int y :: .int x :: st) A Q ↔ XX d 157 111 [v0, v1, v2, v3, v4, v5, v6, v7] (.int (x + y) :: st) A Q := c_stk i_157_110 rfl
theorem q_157_111 : XX d 157 111 [v0, v1, v2, v3, v4, v5, v6, v7] (.int x :: .ref a :: st) (mk S I L R G) Q ↔ S a = some (.inr 12) ∧ XX d 157 114 [v0, v1, v2, v3, v4, v5, v6, v7] st (mk S (wr I a (up (I a) 2 x)) L R G) Q := r_pf i_157_111 rfl (by decide) rfl rfl rfl
theorem q_157_114 : XX d 157 114 [v0, v1, v2, v3, v4, some (.int z), some (.int x), v7] st A Q ↔ XX d 157 117 [v0, v1, v2, v3, v4, some (.int z), some (.int (x + w 1)), v7] st A Q := c_lcl i_157_114 rfl rfl
theorem q_157_117 : XX d 157 117 [v0, v1, v2, v3, v4, v5, v6, v7] st A Q ↔ XX d 157 23 [v0, v1, v2, v3, v4, v5, v6, v7] st A Q := c_go i_157_117 rfl rfl
theorem q_157_120 : XX d 157 120 [some (.ref a), v1, v2, v3, v4, v5, v6, v7] st A Q ↔ XX d 157 121 [some (.ref a), v1, v2, v3, v4, v5, v6, v7] (.ref a :: st) A Q := c_lcl i_157_120 rfl rfl
theorem q_157_121 : XX d 157 121 [v0, v1, v2, v3, v4, v5, v6, v7] (.ref a :: st) (mk S I L R G) Q ↔ S a = some (.inr 12) ∧ XX d 157 124 [v0, v1, v2, v3, v4, v5, v6, v7] (.int (I a 2) :: st) (mk S I L R G) Q := r_gf i_157_121 rfl (by decide) rfl
theorem q_157_124 : XX d 157 124 [v0, v1, v2, v3, v4, v5, v6, v7] [.int x] A Q ↔ Q (.inl (some (.int x))) A := e_retI i_157_124 rfl
theorem q_157_e : XC d 157 [.ref a0, .int x1, .int x2, .int x3, .int x4, .int x5] A Q ↔ XX d 157 0 [some (.ref a0), some (.int x1), some (.int x2), some (.int x3), some (.int x4), some (.int x5), none, none] [] A Q := Iff.rfl
theorem i_158_0 : t_ins 158 0 = some (.iload_n 1) := by decide +kernel
theorem i_158_1 : t_ins 158 1 = some (.aload_n 0) := by decide +kernel
theorem i_158_2 : t_ins 158 2 = some (.getfield 127) := by decide +kernel
theorem i_158_5 : t_ins 158 5 = some (.if_icmp .lt 7) := by decide +kernel
theorem i_158_8 : t_ins 158 8 = some (.iconst (-1)) := by decide +kernel
theorem i_158_9 : t_ins 158 9 = some (.goto 9) := by decide +kernel
theorem i_158_12 : t_ins 158 12 = some (.aload_n 0) := by decide +kernel
theorem i_158_13 : t_ins 158 13 = some (.getfield 17) := by decide +kernel
theorem i_158_16 : t_ins 158 16 = some (.iload_n 1) := by decide +kernel
theorem i_158_17 : t_ins 158 17 = some (.iaload) := by decide +kernel
theorem i_158_18 : t_ins 158 18 = some (.ireturn) := by decide +kernel
theorem q_158_0 : XX d 158 0 [v0, some (.int x)] st A Q ↔ XX d 158 1 [v0, some (.int x)] (.int x :: st) A Q := c_lcl i_158_0 rfl rfl
theorem q_158_1 : XX d 158 1 [some (.ref a), v1] st A Q ↔ XX d 158 2 [some (.ref a), v1] (.ref a :: st) A Q := c_lcl i_158_1 rfl rfl
theorem q_158_2 : XX d 158 2 [v0, v1] (.ref a :: st) (mk S I L R G) Q ↔ S a = some (.inr 12) ∧ XX d 158 5 [v0, v1] (.int (I a 3) :: st) (mk S I L R G) Q := r_gf i_158_2 rfl (by decide) rfl
theorem q_158_5 : XX d 158 5 [v0, v1] (.int y :: .int x :: st) A Q ↔ if x < y then XX d 158 12 [v0, v1] st A Q else XX d 158 8 [v0, v1] st A Q := b_lt i_158_5 rfl rfl rfl
theorem q_158_8 : XX d 158 8 [v0, v1] st A Q ↔ XX d 158 9 [v0, v1] (.int (w (-1)) :: st) A Q := c_stk i_158_8 rfl
theorem q_158_9 : XX d 158 9 [v0, v1] st A Q ↔ XX d 158 18 [v0, v1] st A Q := c_go i_158_9 rfl rfl
theorem q_158_12 : XX d 158 12 [some (.ref a), v1] st A Q ↔ XX d 158 13 [some (.ref a), v1] (.ref a :: st) A Q := c_lcl i_158_12 rfl rfl
theorem q_158_13 : XX d 158 13 [v0, v1] (.ref a :: st) (mk S I L R G) Q ↔ S a = some (.inr 12) ∧ XX d 158 16 [v0, v1] (.ref (a + 2) :: st) (mk S I L R G) Q := r_gf i_158_13 rfl (by decide) rfl
theorem q_158_16 : XX d 158 16 [v0, some (.int x)] st A Q ↔ XX d 158 17 [v0, some (.int x)] (.int x :: st) A Q := c_lcl i_158_16 rfl rfl
theorem q_158_17 : XX d 158 17 [v0, v1] (.int x :: .ref a :: st) (mk S I L R G) Q ↔ inA (S a) ok_i x ∧ XX d 158 18 [v0, v1] (.int (I a (ix x)) :: st) (mk S I L R G) Q := r_ia i_158_17
theorem q_158_18 : XX d 158 18 [v0, v1] [.int x] A Q ↔ Q (.inl (some (.int x))) A := e_retI i_158_18 rfl
theorem q_158_e : XC d 158 [.ref a0, .int x1] A Q ↔ XX d 158 0 [some (.ref a0), some (.int x1)] [] A Q := Iff.rfl
theorem i_159_0 : t_ins 159 0 = some (.aload_n 0) := by decide +kernel
theorem i_159_1 : t_ins 159 1 = some (.aload_n 0) := by decide +kernel
theorem i_159_2 : t_ins 159 2 = some (.getfield 130) := by decide +kernel
theorem i_159_5 : t_ins 159 5 = some (.invokevirtual 133) := by decide +kernel
theorem i_159_8 : t_ins 159 8 = some (.bipush 32) := by decide +kernel
theorem i_159_10 : t_ins 159 10 = some (.if_icmp .ne 16) := by decide +kernel
theorem i_159_13 : t_ins 159 13 = some (.aload_n 0) := by decide +kernel
theorem i_159_14 : t_ins 159 14 = some (.dup) := by decide +kernel
theorem i_159_15 : t_ins 159 15 = some (.getfield 130) := by decide +kernel
theorem i_159_18 : t_ins 159 18 = some (.iconst 1) := by decide +kernel
theorem i_159_19 : t_ins 159 19 = some (.iadd) := by decide +kernel
theorem i_159_20 : t_ins 159 20 = some (.putfield 130) := by decide +kernel
theorem i_159_23 : t_ins 159 23 = some (.goto (-23)) := by decide +kernel
theorem i_159_26 : t_ins 159 26 = some (.aload_n 0) := by decide +kernel
theorem i_159_27 : t_ins 159 27 = some (.aload_n 0) := by decide +kernel
theorem i_159_28 : t_ins 159 28 = some (.getfield 130) := by decide +kernel
theorem i_159_31 : t_ins 159 31 = some (.invokevirtual 133) := by decide +kernel
theorem i_159_34 : t_ins 159 34 = some (.ireturn) := by decide +kernel
theorem q_159_0 : XX d 159 0 [some (.ref a)] st A Q ↔ XX d 159 1 [some (.ref a)] (.ref a :: st) A Q := c_lcl i_159_0 rfl rfl
theorem q_159_1 : XX d 159 1 [some (.ref a)] st A Q ↔ XX d 159 2 [some (.ref a)] (.ref a :: st) A Q := c_lcl i_159_1 rfl rfl
theorem q_159_2 : XX d 159 2 [v0] (.ref a :: st) (mk S I L R G) Q ↔ S a = some (.inr 12) ∧ XX d 159 5 [v0] (.int (I a 4) :: st) (mk S I L R G) Q := r_gf i_159_2 rfl (by decide) rfl
theorem q_159_5 : XX (d + 1) 159 5 [v0] [.int x1, .ref a0] (mk S I L R G) Q ↔ S a0 = some (.inr 12) ∧ XC d 158 [.ref a0, .int x1] (mk S I L R G) (XK (d + 1) 159 5 [v0] [] Q) := c_callV i_159_5 rfl rfl rfl rfl (Nat.le_of_ble_eq_true rfl) (Nat.le_of_ble_eq_true rfl) rfl
theorem q_159_8 : XX d 159 8 [v0] st A Q ↔ XX d 159 10 [v0] (.int (w 32) :: st) A Q := c_stk i_159_8 rfl
theorem q_159_10 : XX d 159 10 [v0] (.int y :: .int x :: st) A Q ↔ if x = y then XX d 159 13 [v0] st A Q else XX d 159 26 [v0] st A Q := b_ne i_159_10 rfl rfl rfl
theorem q_159_13 : XX d 159 13 [some (.ref a)] st A Q ↔ XX d 159 14 [some (.ref a)] (.ref a :: st) A Q := c_lcl i_159_13 rfl rfl
theorem q_159_14 : XX d 159 14 [v0] (.ref a1 :: st) A Q ↔ XX d 159 15 [v0] (.ref a1 :: .ref a1 :: st) A Q := c_stk i_159_14 rfl
theorem q_159_15 : XX d 159 15 [v0] (.ref a :: st) (mk S I L R G) Q ↔ S a = some (.inr 12) ∧ XX d 159 18 [v0] (.int (I a 4) :: st) (mk S I L R G) Q := r_gf i_159_15 rfl (by decide) rfl
theorem q_159_18 : XX d 159 18 [v0] st A Q ↔ XX d 159 19 [v0] (.int (w 1) :: st) A Q := c_stk i_159_18 rfl
theorem q_159_19 : XX d 159 19 [v0] (.int y :: .int x :: st) A Q ↔ XX d 159 20 [v0] (.int (x + y) :: st) A Q := c_stk i_159_19 rfl
theorem q_159_20 : XX d 159 20 [v0] (.int x :: .ref a :: st) (mk S I L R G) Q ↔ S a = some (.inr 12) ∧ XX d 159 23 [v0] st (mk S (wr I a (up (I a) 4 x)) L R G) Q := r_pf i_159_20 rfl (by decide) rfl rfl rfl
theorem q_159_23 : XX d 159 23 [v0] st A Q ↔ XX d 159 0 [v0] st A Q := c_go i_159_23 rfl rfl
theorem q_159_26 : XX d 159 26 [some (.ref a)] st A Q ↔ XX d 159 27 [some (.ref a)] (.ref a :: st) A Q := c_lcl i_159_26 rfl rfl
theorem q_159_27 : XX d 159 27 [some (.ref a)] st A Q ↔ XX d 159 28 [some (.ref a)] (.ref a :: st) A Q := c_lcl i_159_27 rfl rfl
theorem q_159_28 : XX d 159 28 [v0] (.ref a :: st) (mk S I L R G) Q ↔ S a = some (.inr 12) ∧ XX d 159 31 [v0] (.int (I a 4) :: st) (mk S I L R G) Q := r_gf i_159_28 rfl (by decide) rfl
theorem q_159_31 : XX (d + 1) 159 31 [v0] [.int x1, .ref a0] (mk S I L R G) Q ↔ S a0 = some (.inr 12) ∧ XC d 158 [.ref a0, .int x1] (mk S I L R G) (XK (d + 1) 159 31 [v0] [] Q) := c_callV i_159_31 rfl rfl rfl rfl (Nat.le_of_ble_eq_true rfl) (Nat.le_of_ble_eq_true rfl) rfl
theorem q_159_34 : XX d 159 34 [v0] [.int x] A Q ↔ Q (.inl (some (.int x))) A := e_retI i_159_34 rfl
theorem q_159_e : XC d 159 [.ref a0] A Q ↔ XX d 159 0 [some (.ref a0)] [] A Q := Iff.rfl
theorem i_160_0 : t_ins 160 0 = some (.aload_n 0) := by decide +kernel
theorem i_160_1 : t_ins 160 1 = some (.getfield 137) := by decide +kernel
theorem i_160_4 : t_ins 160 4 = some (.ifCond .ne 7) := by decide +kernel
theorem i_160_7 : t_ins 160 7 = some (.iconst 1) := by decide +kernel
theorem i_160_8 : t_ins 160 8 = some (.goto 4) := by decide +kernel
theorem i_160_11 : t_ins 160 11 = some (.iconst 0) := by decide +kernel
theorem i_160_12 : t_ins 160 12 = some (.ireturn) := by decide +kernel
theorem q_160_0 : XX d 160 0 [some (.ref a)] st A Q ↔ XX d 160 1 [some (.ref a)] (.ref a :: st) A Q := c_lcl i_160_0 rfl rfl
theorem q_160_1 : XX d 160 1 [v0] (.ref a :: st) (mk S I L R G) Q ↔ S a = some (.inr 12) ∧ XX d 160 4 [v0] (.int (I a 6) :: st) (mk S I L R G) Q := r_gf i_160_1 rfl (by decide) rfl
theorem q_160_4 : XX d 160 4 [v0] (.int x :: st) A Q ↔ if x = w 0 then XX d 160 7 [v0] st A Q else XX d 160 11 [v0] st A Q := z_ne i_160_4 rfl rfl rfl
theorem q_160_7 : XX d 160 7 [v0] st A Q ↔ XX d 160 8 [v0] (.int (w 1) :: st) A Q := c_stk i_160_7 rfl
theorem q_160_8 : XX d 160 8 [v0] st A Q ↔ XX d 160 12 [v0] st A Q := c_go i_160_8 rfl rfl
theorem q_160_11 : XX d 160 11 [v0] st A Q ↔ XX d 160 12 [v0] (.int (w 0) :: st) A Q := c_stk i_160_11 rfl
theorem q_160_12 : XX d 160 12 [v0] [.int x] A Q ↔ (x = w 0 ∨ x = w 1) ∧ Q (.inl (some (.int x))) A := e_retZ i_160_12 rfl
theorem q_160_e : XC d 160 [.ref a0] A Q ↔ XX d 160 0 [some (.ref a0)] [] A Q := Iff.rfl
theorem i_161_0 : t_ins 161 0 = some (.aload_n 0) := by decide +kernel
theorem i_161_1 : t_ins 161 1 = some (.getfield 137) := by decide +kernel
theorem i_161_4 : t_ins 161 4 = some (.ifCond .ne 13) := by decide +kernel
theorem i_161_7 : t_ins 161 7 = some (.aload_n 0) := by decide +kernel
theorem i_161_8 : t_ins 161 8 = some (.iload_n 1) := by decide +kernel
theorem i_161_9 : t_ins 161 9 = some (.putfield 137) := by decide +kernel
theorem i_161_12 : t_ins 161 12 = some (.aload_n 0) := by decide +kernel
theorem i_161_13 : t_ins 161 13 = some (.iload_n 2) := by decide +kernel
theorem i_161_14 : t_ins 161 14 = some (.putfield 140) := by decide +kernel
theorem i_161_17 : t_ins 161 17 = some (.return_) := by decide +kernel
theorem q_161_0 : XX d 161 0 [some (.ref a), v1, v2] st A Q ↔ XX d 161 1 [some (.ref a), v1, v2] (.ref a :: st) A Q := c_lcl i_161_0 rfl rfl
theorem q_161_1 : XX d 161 1 [v0, v1, v2] (.ref a :: st) (mk S I L R G) Q ↔ S a = some (.inr 12) ∧ XX d 161 4 [v0, v1, v2] (.int (I a 6) :: st) (mk S I L R G) Q := r_gf i_161_1 rfl (by decide) rfl
theorem q_161_4 : XX d 161 4 [v0, v1, v2] (.int x :: st) A Q ↔ if x = w 0 then XX d 161 7 [v0, v1, v2] st A Q else XX d 161 17 [v0, v1, v2] st A Q := z_ne i_161_4 rfl rfl rfl
theorem q_161_7 : XX d 161 7 [some (.ref a), v1, v2] st A Q ↔ XX d 161 8 [some (.ref a), v1, v2] (.ref a :: st) A Q := c_lcl i_161_7 rfl rfl
theorem q_161_8 : XX d 161 8 [v0, some (.int x), v2] st A Q ↔ XX d 161 9 [v0, some (.int x), v2] (.int x :: st) A Q := c_lcl i_161_8 rfl rfl
theorem q_161_9 : XX d 161 9 [v0, v1, v2] (.int x :: .ref a :: st) (mk S I L R G) Q ↔ S a = some (.inr 12) ∧ XX d 161 12 [v0, v1, v2] st (mk S (wr I a (up (I a) 6 x)) L R G) Q := r_pf i_161_9 rfl (by decide) rfl rfl rfl
theorem q_161_12 : XX d 161 12 [some (.ref a), v1, v2] st A Q ↔ XX d 161 13 [some (.ref a), v1, v2] (.ref a :: st) A Q := c_lcl i_161_12 rfl rfl
theorem q_161_13 : XX d 161 13 [v0, v1, some (.int x)] st A Q ↔ XX d 161 14 [v0, v1, some (.int x)] (.int x :: st) A Q := c_lcl i_161_13 rfl rfl
theorem q_161_14 : XX d 161 14 [v0, v1, v2] (.int x :: .ref a :: st) (mk S I L R G) Q ↔ S a = some (.inr 12) ∧ XX d 161 17 [v0, v1, v2] st (mk S (wr I a (up (I a) 7 x)) L R G) Q := r_pf i_161_14 rfl (by decide) rfl rfl rfl
theorem q_161_17 : XX d 161 17 [v0, v1, v2] [] A Q ↔ Q (.inl none) A := e_retN i_161_17 rfl
theorem q_161_e : XC d 161 [.ref a0, .int x1, .int x2] A Q ↔ XX d 161 0 [some (.ref a0), some (.int x1), some (.int x2)] [] A Q := Iff.rfl
theorem i_162_0 : t_ins 162 0 = some (.iload_n 0) := by decide +kernel
theorem i_162_1 : t_ins 162 1 = some (.bipush 48) := by decide +kernel
theorem i_162_3 : t_ins 162 3 = some (.if_icmp .lt 13) := by decide +kernel
theorem i_162_6 : t_ins 162 6 = some (.iload_n 0) := by decide +kernel
theorem i_162_7 : t_ins 162 7 = some (.bipush 57) := by decide +kernel
theorem i_162_9 : t_ins 162 9 = some (.if_icmp .gt 7) := by decide +kernel
theorem i_162_12 : t_ins 162 12 = some (.iconst 1) := by decide +kernel
theorem i_162_13 : t_ins 162 13 = some (.goto 4) := by decide +kernel
theorem i_162_16 : t_ins 162 16 = some (.iconst 0) := by decide +kernel
theorem i_162_17 : t_ins 162 17 = some (.ireturn) := by decide +kernel
theorem q_162_0 : XX d 162 0 [some (.int x)] st A Q ↔ XX d 162 1 [some (.int x)] (.int x :: st) A Q := c_lcl i_162_0 rfl rfl
theorem q_162_1 : XX d 162 1 [v0] st A Q ↔ XX d 162 3 [v0] (.int (w 48) :: st) A Q := c_stk i_162_1 rfl
theorem q_162_3 : XX d 162 3 [v0] (.int y :: .int x :: st) A Q ↔ if x < y then XX d 162 16 [v0] st A Q else XX d 162 6 [v0] st A Q := b_lt i_162_3 rfl rfl rfl
theorem q_162_6 : XX d 162 6 [some (.int x)] st A Q ↔ XX d 162 7 [some (.int x)] (.int x :: st) A Q := c_lcl i_162_6 rfl rfl
theorem q_162_7 : XX d 162 7 [v0] st A Q ↔ XX d 162 9 [v0] (.int (w 57) :: st) A Q := c_stk i_162_7 rfl
theorem q_162_9 : XX d 162 9 [v0] (.int y :: .int x :: st) A Q ↔ if y < x then XX d 162 16 [v0] st A Q else XX d 162 12 [v0] st A Q := b_gt i_162_9 rfl rfl rfl
theorem q_162_12 : XX d 162 12 [v0] st A Q ↔ XX d 162 13 [v0] (.int (w 1) :: st) A Q := c_stk i_162_12 rfl
theorem q_162_13 : XX d 162 13 [v0] st A Q ↔ XX d 162 17 [v0] st A Q := c_go i_162_13 rfl rfl
theorem q_162_16 : XX d 162 16 [v0] st A Q ↔ XX d 162 17 [v0] (.int (w 0) :: st) A Q := c_stk i_162_16 rfl
theorem q_162_17 : XX d 162 17 [v0] [.int x] A Q ↔ (x = w 0 ∨ x = w 1) ∧ Q (.inl (some (.int x))) A := e_retZ i_162_17 rfl
theorem q_162_e : XC d 162 [.int x0] A Q ↔ XX d 162 0 [some (.int x0)] [] A Q := Iff.rfl
theorem i_163_0 : t_ins 163 0 = some (.iload_n 0) := by decide +kernel
theorem i_163_1 : t_ins 163 1 = some (.bipush 97) := by decide +kernel
theorem i_163_3 : t_ins 163 3 = some (.if_icmp .lt 13) := by decide +kernel
theorem i_163_6 : t_ins 163 6 = some (.iload_n 0) := by decide +kernel
theorem i_163_7 : t_ins 163 7 = some (.bipush 122) := by decide +kernel
theorem i_163_9 : t_ins 163 9 = some (.if_icmp .gt 7) := by decide +kernel
theorem i_163_12 : t_ins 163 12 = some (.iconst 1) := by decide +kernel
theorem i_163_13 : t_ins 163 13 = some (.goto 4) := by decide +kernel
theorem i_163_16 : t_ins 163 16 = some (.iconst 0) := by decide +kernel
theorem i_163_17 : t_ins 163 17 = some (.ireturn) := by decide +kernel
theorem q_163_0 : XX d 163 0 [some (.int x)] st A Q ↔ XX d 163 1 [some (.int x)] (.int x :: st) A Q := c_lcl i_163_0 rfl rfl
theorem q_163_1 : XX d 163 1 [v0] st A Q ↔ XX d 163 3 [v0] (.int (w 97) :: st) A Q := c_stk i_163_1 rfl
theorem q_163_3 : XX d 163 3 [v0] (.int y :: .int x :: st) A Q ↔ if x < y then XX d 163 16 [v0] st A Q else XX d 163 6 [v0] st A Q := b_lt i_163_3 rfl rfl rfl
theorem q_163_6 : XX d 163 6 [some (.int x)] st A Q ↔ XX d 163 7 [some (.int x)] (.int x :: st) A Q := c_lcl i_163_6 rfl rfl
theorem q_163_7 : XX d 163 7 [v0] st A Q ↔ XX d 163 9 [v0] (.int (w 122) :: st) A Q := c_stk i_163_7 rfl
theorem q_163_9 : XX d 163 9 [v0] (.int y :: .int x :: st) A Q ↔ if y < x then XX d 163 16 [v0] st A Q else XX d 163 12 [v0] st A Q := b_gt i_163_9 rfl rfl rfl
theorem q_163_12 : XX d 163 12 [v0] st A Q ↔ XX d 163 13 [v0] (.int (w 1) :: st) A Q := c_stk i_163_12 rfl
theorem q_163_13 : XX d 163 13 [v0] st A Q ↔ XX d 163 17 [v0] st A Q := c_go i_163_13 rfl rfl
theorem q_163_16 : XX d 163 16 [v0] st A Q ↔ XX d 163 17 [v0] (.int (w 0) :: st) A Q := c_stk i_163_16 rfl
theorem q_163_17 : XX d 163 17 [v0] [.int x] A Q ↔ (x = w 0 ∨ x = w 1) ∧ Q (.inl (some (.int x))) A := e_retZ i_163_17 rfl
theorem q_163_e : XC d 163 [.int x0] A Q ↔ XX d 163 0 [some (.int x0)] [] A Q := Iff.rfl
theorem i_164_0 : t_ins 164 0 = some (.aload_n 0) := by decide +kernel
theorem i_164_1 : t_ins 164 1 = some (.invokevirtual 143) := by decide +kernel
theorem i_164_4 : t_ins 164 4 = some (.ifCond .ne 5) := by decide +kernel
theorem i_164_7 : t_ins 164 7 = some (.iload_n 1) := by decide +kernel
theorem i_164_8 : t_ins 164 8 = some (.ireturn) := by decide +kernel
theorem i_164_9 : t_ins 164 9 = some (.aload_n 0) := by decide +kernel
theorem i_164_10 : t_ins 164 10 = some (.invokevirtual 147) := by decide +kernel
theorem i_164_13 : t_ins 164 13 = some (.invokestatic 151) := by decide +kernel
theorem i_164_16 : t_ins 164 16 = some (.ifCond .ne 12) := by decide +kernel
theorem i_164_19 : t_ins 164 19 = some (.aload_n 0) := by decide +kernel
theorem i_164_20 : t_ins 164 20 = some (.iconst 1) := by decide +kernel
theorem i_164_21 : t_ins 164 21 = some (.aload_n 0) := by decide +kernel
theorem i_164_22 : t_ins 164 22 = some (.getfield 130) := by decide +kernel
theorem i_164_25 : t_ins 164 25 = some (.invokevirtual 155) := by decide +kernel
theorem i_164_28 : t_ins 164 28 = some (.aload_n 0) := by decide +kernel
theorem i_164_29 : t_ins 164 29 = some (.getfield 130) := by decide +kernel
theorem i_164_32 : t_ins 164 32 = some (.istore_n 3) := by decide +kernel
theorem i_164_33 : t_ins 164 33 = some (.lconst 0) := by decide +kernel
theorem i_164_34 : t_ins 164 34 = some (.lstore 4) := by decide +kernel
theorem i_164_36 : t_ins 164 36 = some (.aload_n 0) := by decide +kernel
theorem i_164_37 : t_ins 164 37 = some (.aload_n 0) := by decide +kernel
theorem i_164_38 : t_ins 164 38 = some (.getfield 130) := by decide +kernel
theorem i_164_41 : t_ins 164 41 = some (.invokevirtual 133) := by decide +kernel
theorem i_164_44 : t_ins 164 44 = some (.invokestatic 151) := by decide +kernel
theorem i_164_47 : t_ins 164 47 = some (.ifCond .eq 52) := by decide +kernel
theorem i_164_50 : t_ins 164 50 = some (.lload 4) := by decide +kernel
theorem i_164_52 : t_ins 164 52 = some (.ldc2_w 159) := by decide +kernel
theorem i_164_55 : t_ins 164 55 = some (.lcmp) := by decide +kernel
theorem i_164_56 : t_ins 164 56 = some (.ifCond .le 8) := by decide +kernel
theorem i_164_59 : t_ins 164 59 = some (.lload 4) := by decide +kernel
theorem i_164_61 : t_ins 164 61 = some (.goto 23) := by decide +kernel
theorem i_164_64 : t_ins 164 64 = some (.ldc2_w 161) := by decide +kernel
theorem i_164_67 : t_ins 164 67 = some (.lload 4) := by decide +kernel
theorem i_164_69 : t_ins 164 69 = some (.lmul) := by decide +kernel
theorem i_164_70 : t_ins 164 70 = some (.aload_n 0) := by decide +kernel
theorem i_164_71 : t_ins 164 71 = some (.aload_n 0) := by decide +kernel
theorem i_164_72 : t_ins 164 72 = some (.getfield 130) := by decide +kernel
theorem i_164_75 : t_ins 164 75 = some (.invokevirtual 133) := by decide +kernel
theorem i_164_78 : t_ins 164 78 = some (.i2l) := by decide +kernel
theorem i_164_79 : t_ins 164 79 = some (.ladd) := by decide +kernel
theorem i_164_80 : t_ins 164 80 = some (.ldc2_w 163) := by decide +kernel
theorem i_164_83 : t_ins 164 83 = some (.lsub) := by decide +kernel
theorem i_164_84 : t_ins 164 84 = some (.lstore 4) := by decide +kernel
theorem i_164_86 : t_ins 164 86 = some (.aload_n 0) := by decide +kernel
theorem i_164_87 : t_ins 164 87 = some (.dup) := by decide +kernel
theorem i_164_88 : t_ins 164 88 = some (.getfield 130) := by decide +kernel
theorem i_164_91 : t_ins 164 91 = some (.iconst 1) := by decide +kernel
theorem i_164_92 : t_ins 164 92 = some (.iadd) := by decide +kernel
theorem i_164_93 : t_ins 164 93 = some (.putfield 130) := by decide +kernel
theorem i_164_96 : t_ins 164 96 = some (.goto (-60)) := by decide +kernel
theorem i_164_99 : t_ins 164 99 = some (.lload 4) := by decide +kernel
theorem i_164_101 : t_ins 164 101 = some (.iload_n 1) := by decide +kernel
theorem i_164_102 : t_ins 164 102 = some (.i2l) := by decide +kernel
theorem i_164_103 : t_ins 164 103 = some (.lcmp) := by decide +kernel
theorem i_164_104 : t_ins 164 104 = some (.ifCond .lt 11) := by decide +kernel
theorem i_164_107 : t_ins 164 107 = some (.lload 4) := by decide +kernel
theorem i_164_109 : t_ins 164 109 = some (.iload_n 2) := by decide +kernel
theorem i_164_110 : t_ins 164 110 = some (.i2l) := by decide +kernel
theorem i_164_111 : t_ins 164 111 = some (.lcmp) := by decide +kernel
theorem i_164_112 : t_ins 164 112 = some (.ifCond .le 9) := by decide +kernel
theorem i_164_115 : t_ins 164 115 = some (.aload_n 0) := by decide +kernel
theorem i_164_116 : t_ins 164 116 = some (.iconst 2) := by decide +kernel
theorem i_164_117 : t_ins 164 117 = some (.iload_n 3) := by decide +kernel
theorem i_164_118 : t_ins 164 118 = some (.invokevirtual 155) := by decide +kernel
theorem i_164_121 : t_ins 164 121 = some (.aload_n 0) := by decide +kernel
theorem i_164_122 : t_ins 164 122 = some (.invokevirtual 143) := by decide +kernel
theorem i_164_125 : t_ins 164 125 = some (.ifCond .eq 9) := by decide +kernel
theorem i_164_128 : t_ins 164 128 = some (.lload 4) := by decide +kernel
theorem i_164_130 : t_ins 164 130 = some (.l2i) := by decide +kernel
theorem i_164_131 : t_ins 164 131 = some (.goto 4) := by decide +kernel
theorem i_164_134 : t_ins 164 134 = some (.iload_n 1) := by decide +kernel
theorem i_164_135 : t_ins 164 135 = some (.ireturn) := by decide +kernel
theorem q_164_0 : XX d 164 0 [some (.ref a), v1, v2, v3, v4, v5] st A Q ↔ XX d 164 1 [some (.ref a), v1, v2, v3, v4, v5] (.ref a :: st) A Q := c_lcl i_164_0 rfl rfl
theorem q_164_1 : XX (d + 1) 164 1 [v0, v1, v2, v3, v4, v5] [.ref a0] (mk S I L R G) Q ↔ S a0 = some (.inr 12) ∧ XC d 160 [.ref a0] (mk S I L R G) (XK (d + 1) 164 1 [v0, v1, v2, v3, v4, v5] [] Q) := c_callV i_164_1 rfl rfl rfl rfl (Nat.le_of_ble_eq_true rfl) (Nat.le_of_ble_eq_true rfl) rfl
theorem q_164_4 : XX d 164 4 [v0, v1, v2, v3, v4, v5] (.int x :: st) A Q ↔ if x = w 0 then XX d 164 7 [v0, v1, v2, v3, v4, v5] st A Q else XX d 164 9 [v0, v1, v2, v3, v4, v5] st A Q := z_ne i_164_4 rfl rfl rfl
theorem q_164_7 : XX d 164 7 [v0, some (.int x), v2, v3, v4, v5] st A Q ↔ XX d 164 8 [v0, some (.int x), v2, v3, v4, v5] (.int x :: st) A Q := c_lcl i_164_7 rfl rfl
theorem q_164_8 : XX d 164 8 [v0, v1, v2, v3, v4, v5] [.int x] A Q ↔ Q (.inl (some (.int x))) A := e_retI i_164_8 rfl
theorem q_164_9 : XX d 164 9 [some (.ref a), v1, v2, v3, v4, v5] st A Q ↔ XX d 164 10 [some (.ref a), v1, v2, v3, v4, v5] (.ref a :: st) A Q := c_lcl i_164_9 rfl rfl
theorem q_164_10 : XX (d + 1) 164 10 [v0, v1, v2, v3, v4, v5] [.ref a0] (mk S I L R G) Q ↔ S a0 = some (.inr 12) ∧ XC d 159 [.ref a0] (mk S I L R G) (XK (d + 1) 164 10 [v0, v1, v2, v3, v4, v5] [] Q) := c_callV i_164_10 rfl rfl rfl rfl (Nat.le_of_ble_eq_true rfl) (Nat.le_of_ble_eq_true rfl) rfl
theorem q_164_13 : XX (d + 1) 164 13 [v0, v1, v2, v3, v4, v5] [.int x0] A Q ↔ XC d 162 [.int x0] A (XK (d + 1) 164 13 [v0, v1, v2, v3, v4, v5] [] Q) := c_callS i_164_13 rfl rfl rfl rfl (Nat.le_of_ble_eq_true rfl) (Nat.le_of_ble_eq_true rfl)
theorem q_164_16 : XX d 164 16 [v0, v1, v2, v3, v4, v5] (.int x :: st) A Q ↔ if x = w 0 then XX d 164 19 [v0, v1, v2, v3, v4, v5] st A Q else XX d 164 28 [v0, v1, v2, v3, v4, v5] st A Q := z_ne i_164_16 rfl rfl rfl
theorem q_164_19 : XX d 164 19 [some (.ref a), v1, v2, v3, v4, v5] st A Q ↔ XX d 164 20 [some (.ref a), v1, v2, v3, v4, v5] (.ref a :: st) A Q := c_lcl i_164_19 rfl rfl
theorem q_164_20 : XX d 164 20 [v0, v1, v2, v3, v4, v5] st A Q ↔ XX d 164 21 [v0, v1, v2, v3, v4, v5] (.int (w 1) :: st) A Q := c_stk i_164_20 rfl
theorem q_164_21 : XX d 164 21 [some (.ref a), v1, v2, v3, v4, v5] st A Q ↔ XX d 164 22 [some (.ref a), v1, v2, v3, v4, v5] (.ref a :: st) A Q := c_lcl i_164_21 rfl rfl
theorem q_164_22 : XX d 164 22 [v0, v1, v2, v3, v4, v5] (.ref a :: st) (mk S I L R G) Q ↔ S a = some (.inr 12) ∧ XX d 164 25 [v0, v1, v2, v3, v4, v5] (.int (I a 4) :: st) (mk S I L R G) Q := r_gf i_164_22 rfl (by decide) rfl
theorem q_164_25 : XX (d + 1) 164 25 [v0, v1, v2, v3, v4, v5] [.int x2, .int x1, .ref a0] (mk S I L R G) Q ↔ S a0 = some (.inr 12) ∧ XC d 161 [.ref a0, .int x1, .int x2] (mk S I L R G) (XK (d + 1) 164 25 [v0, v1, v2, v3, v4, v5] [] Q) := c_callV i_164_25 rfl rfl rfl rfl (Nat.le_of_ble_eq_true rfl) (Nat.le_of_ble_eq_true rfl) rfl
theorem q_164_28 : XX d 164 28 [some (.ref a), v1, v2, v3, v4, v5] st A Q ↔ XX d 164 29 [some (.ref a), v1, v2, v3, v4, v5] (.ref a :: st) A Q := c_lcl i_164_28 rfl rfl
theorem q_164_29 : XX d 164 29 [v0, v1, v2, v3, v4, v5] (.ref a :: st) (mk S I L R G) Q ↔ S a = some (.inr 12) ∧ XX d 164 32 [v0, v1, v2, v3, v4, v5] (.int (I a 4) :: st) (mk S I L R G) Q := r_gf i_164_29 rfl (by decide) rfl
theorem q_164_32 : XX d 164 32 [v0, v1, some (.int z), v3, v4, v5] (.int x :: st) A Q ↔ XX d 164 33 [v0, v1, some (.int z), some (.int x), v4, v5] st A Q := c_lcl i_164_32 rfl rfl
theorem q_164_33 : XX d 164 33 [v0, v1, v2, v3, v4, v5] st A Q ↔ XX d 164 34 [v0, v1, v2, v3, v4, v5] (.long (wl 0) :: st) A Q := c_stk i_164_33 rfl
theorem q_164_34 : XX d 164 34 [v0, v1, v2, some (.int z), v4, v5] (.long lx :: st) A Q ↔ XX d 164 36 [v0, v1, v2, some (.int z), some (.long lx), none] st A Q := c_lcl i_164_34 rfl rfl
theorem q_164_36 : XX d 164 36 [some (.ref a), v1, v2, v3, v4, v5] st A Q ↔ XX d 164 37 [some (.ref a), v1, v2, v3, v4, v5] (.ref a :: st) A Q := c_lcl i_164_36 rfl rfl
theorem q_164_37 : XX d 164 37 [some (.ref a), v1, v2, v3, v4, v5] st A Q ↔ XX d 164 38 [some (.ref a), v1, v2, v3, v4, v5] (.ref a :: st) A Q := c_lcl i_164_37 rfl rfl
theorem q_164_38 : XX d 164 38 [v0, v1, v2, v3, v4, v5] (.ref a :: st) (mk S I L R G) Q ↔ S a = some (.inr 12) ∧ XX d 164 41 [v0, v1, v2, v3, v4, v5] (.int (I a 4) :: st) (mk S I L R G) Q := r_gf i_164_38 rfl (by decide) rfl
theorem q_164_41 : XX (d + 1) 164 41 [v0, v1, v2, v3, v4, v5] [.int x1, .ref a0] (mk S I L R G) Q ↔ S a0 = some (.inr 12) ∧ XC d 158 [.ref a0, .int x1] (mk S I L R G) (XK (d + 1) 164 41 [v0, v1, v2, v3, v4, v5] [] Q) := c_callV i_164_41 rfl rfl rfl rfl (Nat.le_of_ble_eq_true rfl) (Nat.le_of_ble_eq_true rfl) rfl
theorem q_164_44 : XX (d + 1) 164 44 [v0, v1, v2, v3, v4, v5] [.int x0] A Q ↔ XC d 162 [.int x0] A (XK (d + 1) 164 44 [v0, v1, v2, v3, v4, v5] [] Q) := c_callS i_164_44 rfl rfl rfl rfl (Nat.le_of_ble_eq_true rfl) (Nat.le_of_ble_eq_true rfl)
theorem q_164_47 : XX d 164 47 [v0, v1, v2, v3, v4, v5] (.int x :: st) A Q ↔ if x = w 0 then XX d 164 99 [v0, v1, v2, v3, v4, v5] st A Q else XX d 164 50 [v0, v1, v2, v3, v4, v5] st A Q := z_eq i_164_47 rfl rfl rfl
theorem q_164_50 : XX d 164 50 [v0, v1, v2, v3, some (.long lx), v5] st A Q ↔ XX d 164 52 [v0, v1, v2, v3, some (.long lx), v5] (.long lx :: st) A Q := c_lcl i_164_50 rfl rfl
theorem q_164_52 : XX d 164 52 [v0, v1, v2, v3, v4, v5] st A Q ↔ XX d 164 55 [v0, v1, v2, v3, v4, v5] (.long (wl 999999999) :: st) A Q := r_ld2 i_164_52 rfl
theorem q_164_55 : XX d 164 55 [v0, v1, v2, v3, v4, v5] (.long ly :: .long lx :: st) A Q ↔ XX d 164 56 [v0, v1, v2, v3, v4, v5] (.int (lg_cmp lx ly) :: st) A Q := c_stk i_164_55 rfl
theorem q_164_56 : XX d 164 56 [v0, v1, v2, v3, v4, v5] (.int x :: st) A Q ↔ if w 0 < x then XX d 164 59 [v0, v1, v2, v3, v4, v5] st A Q else XX d 164 64 [v0, v1, v2, v3, v4, v5] st A Q := z_le i_164_56 rfl rfl rfl
theorem q_164_59 : XX d 164 59 [v0, v1, v2, v3, some (.long lx), v5] st A Q ↔ XX d 164 61 [v0, v1, v2, v3, some (.long lx), v5] (.long lx :: st) A Q := c_lcl i_164_59 rfl rfl
theorem q_164_61 : XX d 164 61 [v0, v1, v2, v3, v4, v5] st A Q ↔ XX d 164 84 [v0, v1, v2, v3, v4, v5] st A Q := c_go i_164_61 rfl rfl
theorem q_164_64 : XX d 164 64 [v0, v1, v2, v3, v4, v5] st A Q ↔ XX d 164 67 [v0, v1, v2, v3, v4, v5] (.long (wl 10) :: st) A Q := r_ld2 i_164_64 rfl
theorem q_164_67 : XX d 164 67 [v0, v1, v2, v3, some (.long lx), v5] st A Q ↔ XX d 164 69 [v0, v1, v2, v3, some (.long lx), v5] (.long lx :: st) A Q := c_lcl i_164_67 rfl rfl
theorem q_164_69 : XX d 164 69 [v0, v1, v2, v3, v4, v5] (.long ly :: .long lx :: st) A Q ↔ XX d 164 70 [v0, v1, v2, v3, v4, v5] (.long (lx * ly) :: st) A Q := c_stk i_164_69 rfl
theorem q_164_70 : XX d 164 70 [some (.ref a), v1, v2, v3, v4, v5] st A Q ↔ XX d 164 71 [some (.ref a), v1, v2, v3, v4, v5] (.ref a :: st) A Q := c_lcl i_164_70 rfl rfl
theorem q_164_71 : XX d 164 71 [some (.ref a), v1, v2, v3, v4, v5] st A Q ↔ XX d 164 72 [some (.ref a), v1, v2, v3, v4, v5] (.ref a :: st) A Q := c_lcl i_164_71 rfl rfl
theorem q_164_72 : XX d 164 72 [v0, v1, v2, v3, v4, v5] (.ref a :: st) (mk S I L R G) Q ↔ S a = some (.inr 12) ∧ XX d 164 75 [v0, v1, v2, v3, v4, v5] (.int (I a 4) :: st) (mk S I L R G) Q := r_gf i_164_72 rfl (by decide) rfl
theorem q_164_75 : XX (d + 1) 164 75 [v0, v1, v2, v3, v4, v5] [.int x1, .ref a0, .long l2] (mk S I L R G) Q ↔ S a0 = some (.inr 12) ∧ XC d 158 [.ref a0, .int x1] (mk S I L R G) (XK (d + 1) 164 75 [v0, v1, v2, v3, v4, v5] [.long l2] Q) := c_callV i_164_75 rfl rfl rfl rfl (Nat.le_of_ble_eq_true rfl) (Nat.le_of_ble_eq_true rfl) rfl
theorem q_164_78 : XX d 164 78 [v0, v1, v2, v3, v4, v5] (.int x :: st) A Q ↔ XX d 164 79 [v0, v1, v2, v3, v4, v5] (.long x.toInt64 :: st) A Q := c_stk i_164_78 rfl
theorem q_164_79 : XX d 164 79 [v0, v1, v2, v3, v4, v5] (.long ly :: .long lx :: st) A Q ↔ XX d 164 80 [v0, v1, v2, v3, v4, v5] (.long (lx + ly) :: st) A Q := c_stk i_164_79 rfl
theorem q_164_80 : XX d 164 80 [v0, v1, v2, v3, v4, v5] st A Q ↔ XX d 164 83 [v0, v1, v2, v3, v4, v5] (.long (wl 48) :: st) A Q := r_ld2 i_164_80 rfl
theorem q_164_83 : XX d 164 83 [v0, v1, v2, v3, v4, v5] (.long ly :: .long lx :: st) A Q ↔ XX d 164 84 [v0, v1, v2, v3, v4, v5] (.long (lx - ly) :: st) A Q := c_stk i_164_83 rfl
theorem q_164_84 : XX d 164 84 [v0, v1, v2, some (.int z), v4, v5] (.long lx :: st) A Q ↔ XX d 164 86 [v0, v1, v2, some (.int z), some (.long lx), none] st A Q := c_lcl i_164_84 rfl rfl
theorem q_164_86 : XX d 164 86 [some (.ref a), v1, v2, v3, v4, v5] st A Q ↔ XX d 164 87 [some (.ref a), v1, v2, v3, v4, v5] (.ref a :: st) A Q := c_lcl i_164_86 rfl rfl
theorem q_164_87 : XX d 164 87 [v0, v1, v2, v3, v4, v5] (.ref a1 :: st) A Q ↔ XX d 164 88 [v0, v1, v2, v3, v4, v5] (.ref a1 :: .ref a1 :: st) A Q := c_stk i_164_87 rfl
theorem q_164_88 : XX d 164 88 [v0, v1, v2, v3, v4, v5] (.ref a :: st) (mk S I L R G) Q ↔ S a = some (.inr 12) ∧ XX d 164 91 [v0, v1, v2, v3, v4, v5] (.int (I a 4) :: st) (mk S I L R G) Q := r_gf i_164_88 rfl (by decide) rfl
theorem q_164_91 : XX d 164 91 [v0, v1, v2, v3, v4, v5] st A Q ↔ XX d 164 92 [v0, v1, v2, v3, v4, v5] (.int (w 1) :: st) A Q := c_stk i_164_91 rfl
theorem q_164_92 : XX d 164 92 [v0, v1, v2, v3, v4, v5] (.int y :: .int x :: st) A Q ↔ XX d 164 93 [v0, v1, v2, v3, v4, v5] (.int (x + y) :: st) A Q := c_stk i_164_92 rfl
theorem q_164_93 : XX d 164 93 [v0, v1, v2, v3, v4, v5] (.int x :: .ref a :: st) (mk S I L R G) Q ↔ S a = some (.inr 12) ∧ XX d 164 96 [v0, v1, v2, v3, v4, v5] st (mk S (wr I a (up (I a) 4 x)) L R G) Q := r_pf i_164_93 rfl (by decide) rfl rfl rfl
theorem q_164_96 : XX d 164 96 [v0, v1, v2, v3, v4, v5] st A Q ↔ XX d 164 36 [v0, v1, v2, v3, v4, v5] st A Q := c_go i_164_96 rfl rfl
theorem q_164_99 : XX d 164 99 [v0, v1, v2, v3, some (.long lx), v5] st A Q ↔ XX d 164 101 [v0, v1, v2, v3, some (.long lx), v5] (.long lx :: st) A Q := c_lcl i_164_99 rfl rfl
theorem q_164_101 : XX d 164 101 [v0, some (.int x), v2, v3, v4, v5] st A Q ↔ XX d 164 102 [v0, some (.int x), v2, v3, v4, v5] (.int x :: st) A Q := c_lcl i_164_101 rfl rfl
theorem q_164_102 : XX d 164 102 [v0, v1, v2, v3, v4, v5] (.int x :: st) A Q ↔ XX d 164 103 [v0, v1, v2, v3, v4, v5] (.long x.toInt64 :: st) A Q := c_stk i_164_102 rfl
theorem q_164_103 : XX d 164 103 [v0, v1, v2, v3, v4, v5] (.long ly :: .long lx :: st) A Q ↔ XX d 164 104 [v0, v1, v2, v3, v4, v5] (.int (lg_cmp lx ly) :: st) A Q := c_stk i_164_103 rfl
theorem q_164_104 : XX d 164 104 [v0, v1, v2, v3, v4, v5] (.int x :: st) A Q ↔ if x < w 0 then XX d 164 115 [v0, v1, v2, v3, v4, v5] st A Q else XX d 164 107 [v0, v1, v2, v3, v4, v5] st A Q := z_lt i_164_104 rfl rfl rfl
theorem q_164_107 : XX d 164 107 [v0, v1, v2, v3, some (.long lx), v5] st A Q ↔ XX d 164 109 [v0, v1, v2, v3, some (.long lx), v5] (.long lx :: st) A Q := c_lcl i_164_107 rfl rfl
theorem q_164_109 : XX d 164 109 [v0, v1, some (.int x), v3, v4, v5] st A Q ↔ XX d 164 110 [v0, v1, some (.int x), v3, v4, v5] (.int x :: st) A Q := c_lcl i_164_109 rfl rfl
theorem q_164_110 : XX d 164 110 [v0, v1, v2, v3, v4, v5] (.int x :: st) A Q ↔ XX d 164 111 [v0, v1, v2, v3, v4, v5] (.long x.toInt64 :: st) A Q := c_stk i_164_110 rfl
theorem q_164_111 : XX d 164 111 [v0, v1, v2, v3, v4, v5] (.long ly :: .long lx :: st) A Q ↔ XX d 164 112 [v0, v1, v2, v3, v4, v5] (.int (lg_cmp lx ly) :: st) A Q := c_stk i_164_111 rfl
theorem q_164_112 : XX d 164 112 [v0, v1, v2, v3, v4, v5] (.int x :: st) A Q ↔ if w 0 < x then XX d 164 115 [v0, v1, v2, v3, v4, v5] st A Q else XX d 164 121 [v0, v1, v2, v3, v4, v5] st A Q := z_le i_164_112 rfl rfl rfl
theorem q_164_115 : XX d 164 115 [some (.ref a), v1, v2, v3, v4, v5] st A Q ↔ XX d 164 116 [some (.ref a), v1, v2, v3, v4, v5] (.ref a :: st) A Q := c_lcl i_164_115 rfl rfl
theorem q_164_116 : XX d 164 116 [v0, v1, v2, v3, v4, v5] st A Q ↔ XX d 164 117 [v0, v1, v2, v3, v4, v5] (.int (w 2) :: st) A Q := c_stk i_164_116 rfl
theorem q_164_117 : XX d 164 117 [v0, v1, v2, some (.int x), v4, v5] st A Q ↔ XX d 164 118 [v0, v1, v2, some (.int x), v4, v5] (.int x :: st) A Q := c_lcl i_164_117 rfl rfl
theorem q_164_118 : XX (d + 1) 164 118 [v0, v1, v2, v3, v4, v5] [.int x2, .int x1, .ref a0] (mk S I L R G) Q ↔ S a0 = some (.inr 12) ∧ XC d 161 [.ref a0, .int x1, .int x2] (mk S I L R G) (XK (d + 1) 164 118 [v0, v1, v2, v3, v4, v5] [] Q) := c_callV i_164_118 rfl rfl rfl rfl (Nat.le_of_ble_eq_true rfl) (Nat.le_of_ble_eq_true rfl) rfl
theorem q_164_121 : XX d 164 121 [some (.ref a), v1, v2, v3, v4, v5] st A Q ↔ XX d 164 122 [some (.ref a), v1, v2, v3, v4, v5] (.ref a :: st) A Q := c_lcl i_164_121 rfl rfl
theorem q_164_122 : XX (d + 1) 164 122 [v0, v1, v2, v3, v4, v5] [.ref a0] (mk S I L R G) Q ↔ S a0 = some (.inr 12) ∧ XC d 160 [.ref a0] (mk S I L R G) (XK (d + 1) 164 122 [v0, v1, v2, v3, v4, v5] [] Q) := c_callV i_164_122 rfl rfl rfl rfl (Nat.le_of_ble_eq_true rfl) (Nat.le_of_ble_eq_true rfl) rfl
theorem q_164_125 : XX d 164 125 [v0, v1, v2, v3, v4, v5] (.int x :: st) A Q ↔ if x = w 0 then XX d 164 134 [v0, v1, v2, v3, v4, v5] st A Q else XX d 164 128 [v0, v1, v2, v3, v4, v5] st A Q := z_eq i_164_125 rfl rfl rfl
theorem q_164_128 : XX d 164 128 [v0, v1, v2, v3, some (.long lx), v5] st A Q ↔ XX d 164 130 [v0, v1, v2, v3, some (.long lx), v5] (.long lx :: st) A Q := c_lcl i_164_128 rfl rfl
theorem q_164_130 : XX d 164 130 [v0, v1, v2, v3, v4, v5] (.long lx :: st) A Q ↔ XX d 164 131 [v0, v1, v2, v3, v4, v5] (.int lx.toInt32 :: st) A Q := c_stk i_164_130 rfl
theorem q_164_131 : XX d 164 131 [v0, v1, v2, v3, v4, v5] st A Q ↔ XX d 164 135 [v0, v1, v2, v3, v4, v5] st A Q := c_go i_164_131 rfl rfl
theorem q_164_134 : XX d 164 134 [v0, some (.int x), v2, v3, v4, v5] st A Q ↔ XX d 164 135 [v0, some (.int x), v2, v3, v4, v5] (.int x :: st) A Q := c_lcl i_164_134 rfl rfl
theorem q_164_135 : XX d 164 135 [v0, v1, v2, v3, v4, v5] [.int x] A Q ↔ Q (.inl (some (.int x))) A := e_retI i_164_135 rfl
theorem q_164_e : XC d 164 [.ref a0, .int x1, .int x2] A Q ↔ XX d 164 0 [some (.ref a0), some (.int x1), some (.int x2), none, none, none] [] A Q := Iff.rfl
theorem i_165_0 : t_ins 165 0 = some (.aload_n 0) := by decide +kernel
theorem i_165_1 : t_ins 165 1 = some (.invokevirtual 147) := by decide +kernel
theorem i_165_4 : t_ins 165 4 = some (.pop) := by decide +kernel
theorem i_165_5 : t_ins 165 5 = some (.iconst 0) := by decide +kernel
theorem i_165_6 : t_ins 165 6 = some (.istore_n 1) := by decide +kernel
theorem i_165_7 : t_ins 165 7 = some (.aload_n 0) := by decide +kernel
theorem i_165_8 : t_ins 165 8 = some (.aload_n 0) := by decide +kernel
theorem i_165_9 : t_ins 165 9 = some (.getfield 130) := by decide +kernel
theorem i_165_12 : t_ins 165 12 = some (.iload_n 1) := by decide +kernel
theorem i_165_13 : t_ins 165 13 = some (.iadd) := by decide +kernel
theorem i_165_14 : t_ins 165 14 = some (.invokevirtual 133) := by decide +kernel
theorem i_165_17 : t_ins 165 17 = some (.invokestatic 165) := by decide +kernel
theorem i_165_20 : t_ins 165 20 = some (.ifCond .eq 9) := by decide +kernel
theorem i_165_23 : t_ins 165 23 = some (.iinc 1 1) := by decide +kernel
theorem i_165_26 : t_ins 165 26 = some (.goto (-19)) := by decide +kernel
theorem i_165_29 : t_ins 165 29 = some (.iload_n 1) := by decide +kernel
theorem i_165_30 : t_ins 165 30 = some (.ireturn) := by decide +kernel
theorem q_165_0 : XX d 165 0 [some (.ref a), v1] st A Q ↔ XX d 165 1 [some (.ref a), v1] (.ref a :: st) A Q := c_lcl i_165_0 rfl rfl
theorem q_165_1 : XX (d + 1) 165 1 [v0, v1] [.ref a0] (mk S I L R G) Q ↔ S a0 = some (.inr 12) ∧ XC d 159 [.ref a0] (mk S I L R G) (XK (d + 1) 165 1 [v0, v1] [] Q) := c_callV i_165_1 rfl rfl rfl rfl (Nat.le_of_ble_eq_true rfl) (Nat.le_of_ble_eq_true rfl) rfl
theorem q_165_4 : XX d 165 4 [v0, v1] (.int x1 :: st) A Q ↔ XX d 165 5 [v0, v1] st A Q := c_stk i_165_4 rfl
theorem q_165_5 : XX d 165 5 [v0, v1] st A Q ↔ XX d 165 6 [v0, v1] (.int (w 0) :: st) A Q := c_stk i_165_5 rfl
theorem q_165_6 : XX d 165 6 [some (.ref b), v1] (.int x :: st) A Q ↔ XX d 165 7 [some (.ref b), some (.int x)] st A Q := c_lcl i_165_6 rfl rfl
theorem q_165_7 : XX d 165 7 [some (.ref a), v1] st A Q ↔ XX d 165 8 [some (.ref a), v1] (.ref a :: st) A Q := c_lcl i_165_7 rfl rfl
theorem q_165_8 : XX d 165 8 [some (.ref a), v1] st A Q ↔ XX d 165 9 [some (.ref a), v1] (.ref a :: st) A Q := c_lcl i_165_8 rfl rfl
theorem q_165_9 : XX d 165 9 [v0, v1] (.ref a :: st) (mk S I L R G) Q ↔ S a = some (.inr 12) ∧ XX d 165 12 [v0, v1] (.int (I a 4) :: st) (mk S I L R G) Q := r_gf i_165_9 rfl (by decide) rfl
theorem q_165_12 : XX d 165 12 [v0, some (.int x)] st A Q ↔ XX d 165 13 [v0, some (.int x)] (.int x :: st) A Q := c_lcl i_165_12 rfl rfl
theorem q_165_13 : XX d 165 13 [v0, v1] (.int y :: .int x :: st) A Q ↔ XX d 165 14 [v0, v1] (.int (x + y) :: st) A Q := c_stk i_165_13 rfl
theorem q_165_14 : XX (d + 1) 165 14 [v0, v1] [.int x1, .ref a0] (mk S I L R G) Q ↔ S a0 = some (.inr 12) ∧ XC d 158 [.ref a0, .int x1] (mk S I L R G) (XK (d + 1) 165 14 [v0, v1] [] Q) := c_callV i_165_14 rfl rfl rfl rfl (Nat.le_of_ble_eq_true rfl) (Nat.le_of_ble_eq_true rfl) rfl
theorem q_165_17 : XX (d + 1) 165 17 [v0, v1] [.int x0] A Q ↔ XC d 163 [.int x0] A (XK (d + 1) 165 17 [v0, v1] [] Q) := c_callS i_165_17 rfl rfl rfl rfl (Nat.le_of_ble_eq_true rfl) (Nat.le_of_ble_eq_true rfl)
theorem q_165_20 : XX d 165 20 [v0, v1] (.int x :: st) A Q ↔ if x = w 0 then XX d 165 29 [v0, v1] st A Q else XX d 165 23 [v0, v1] st A Q := z_eq i_165_20 rfl rfl rfl
theorem q_165_23 : XX d 165 23 [some (.ref b), some (.int x)] st A Q ↔ XX d 165 26 [some (.ref b), some (.int (x + w 1))] st A Q := c_lcl i_165_23 rfl rfl
theorem q_165_26 : XX d 165 26 [v0, v1] st A Q ↔ XX d 165 7 [v0, v1] st A Q := c_go i_165_26 rfl rfl
theorem q_165_29 : XX d 165 29 [v0, some (.int x)] st A Q ↔ XX d 165 30 [v0, some (.int x)] (.int x :: st) A Q := c_lcl i_165_29 rfl rfl
theorem q_165_30 : XX d 165 30 [v0, v1] [.int x] A Q ↔ Q (.inl (some (.int x))) A := e_retI i_165_30 rfl
theorem q_165_e : XC d 165 [.ref a0] A Q ↔ XX d 165 0 [some (.ref a0), none] [] A Q := Iff.rfl
theorem i_166_0 : t_ins 166 0 = some (.aload_n 0) := by decide +kernel
theorem i_166_1 : t_ins 166 1 = some (.invokevirtual 143) := by decide +kernel
theorem i_166_4 : t_ins 166 4 = some (.ifCond .eq 14) := by decide +kernel
theorem i_166_7 : t_ins 166 7 = some (.aload_n 0) := by decide +kernel
theorem i_166_8 : t_ins 166 8 = some (.invokevirtual 168) := by decide +kernel
theorem i_166_11 : t_ins 166 11 = some (.aload_n 1) := by decide +kernel
theorem i_166_12 : t_ins 166 12 = some (.invokevirtual 171) := by decide +kernel
theorem i_166_15 : t_ins 166 15 = some (.if_icmp .eq 5) := by decide +kernel
theorem i_166_18 : t_ins 166 18 = some (.iconst 0) := by decide +kernel
theorem i_166_19 : t_ins 166 19 = some (.ireturn) := by decide +kernel
theorem i_166_20 : t_ins 166 20 = some (.iconst 0) := by decide +kernel
theorem i_166_21 : t_ins 166 21 = some (.istore_n 2) := by decide +kernel
theorem i_166_22 : t_ins 166 22 = some (.iload_n 2) := by decide +kernel
theorem i_166_23 : t_ins 166 23 = some (.aload_n 1) := by decide +kernel
theorem i_166_24 : t_ins 166 24 = some (.invokevirtual 171) := by decide +kernel
theorem i_166_27 : t_ins 166 27 = some (.if_icmp .ge 29) := by decide +kernel
theorem i_166_30 : t_ins 166 30 = some (.aload_n 0) := by decide +kernel
theorem i_166_31 : t_ins 166 31 = some (.aload_n 0) := by decide +kernel
theorem i_166_32 : t_ins 166 32 = some (.getfield 130) := by decide +kernel
theorem i_166_35 : t_ins 166 35 = some (.iload_n 2) := by decide +kernel
theorem i_166_36 : t_ins 166 36 = some (.iadd) := by decide +kernel
theorem i_166_37 : t_ins 166 37 = some (.invokevirtual 133) := by decide +kernel
theorem i_166_40 : t_ins 166 40 = some (.aload_n 1) := by decide +kernel
theorem i_166_41 : t_ins 166 41 = some (.iload_n 2) := by decide +kernel
theorem i_166_42 : t_ins 166 42 = some (.invokevirtual 175) := by decide +kernel
theorem i_166_45 : t_ins 166 45 = some (.if_icmp .eq 5) := by decide +kernel
theorem i_166_48 : t_ins 166 48 = some (.iconst 0) := by decide +kernel
theorem i_166_49 : t_ins 166 49 = some (.ireturn) := by decide +kernel
theorem i_166_50 : t_ins 166 50 = some (.iinc 2 1) := by decide +kernel
theorem i_166_53 : t_ins 166 53 = some (.goto (-31)) := by decide +kernel
theorem i_166_56 : t_ins 166 56 = some (.aload_n 0) := by decide +kernel
theorem i_166_57 : t_ins 166 57 = some (.dup) := by decide +kernel
theorem i_166_58 : t_ins 166 58 = some (.getfield 130) := by decide +kernel
theorem i_166_61 : t_ins 166 61 = some (.aload_n 1) := by decide +kernel
theorem i_166_62 : t_ins 166 62 = some (.invokevirtual 171) := by decide +kernel
theorem i_166_65 : t_ins 166 65 = some (.iadd) := by decide +kernel
theorem i_166_66 : t_ins 166 66 = some (.putfield 130) := by decide +kernel
theorem i_166_69 : t_ins 166 69 = some (.iconst 1) := by decide +kernel
theorem i_166_70 : t_ins 166 70 = some (.ireturn) := by decide +kernel
theorem q_166_0 : XX d 166 0 [some (.ref a), v1, v2] st A Q ↔ XX d 166 1 [some (.ref a), v1, v2] (.ref a :: st) A Q := c_lcl i_166_0 rfl rfl
theorem q_166_1 : XX (d + 1) 166 1 [v0, v1, v2] [.ref a0] (mk S I L R G) Q ↔ S a0 = some (.inr 12) ∧ XC d 160 [.ref a0] (mk S I L R G) (XK (d + 1) 166 1 [v0, v1, v2] [] Q) := c_callV i_166_1 rfl rfl rfl rfl (Nat.le_of_ble_eq_true rfl) (Nat.le_of_ble_eq_true rfl) rfl
theorem q_166_4 : XX d 166 4 [v0, v1, v2] (.int x :: st) A Q ↔ if x = w 0 then XX d 166 18 [v0, v1, v2] st A Q else XX d 166 7 [v0, v1, v2] st A Q := z_eq i_166_4 rfl rfl rfl
theorem q_166_7 : XX d 166 7 [some (.ref a), v1, v2] st A Q ↔ XX d 166 8 [some (.ref a), v1, v2] (.ref a :: st) A Q := c_lcl i_166_7 rfl rfl
theorem q_166_8 : XX (d + 1) 166 8 [v0, v1, v2] [.ref a0] (mk S I L R G) Q ↔ S a0 = some (.inr 12) ∧ XC d 165 [.ref a0] (mk S I L R G) (XK (d + 1) 166 8 [v0, v1, v2] [] Q) := c_callV i_166_8 rfl rfl rfl rfl (Nat.le_of_ble_eq_true rfl) (Nat.le_of_ble_eq_true rfl) rfl
theorem q_166_11 : XX d 166 11 [v0, some (.ref a), v2] st A Q ↔ XX d 166 12 [v0, some (.ref a), v2] (.ref a :: st) A Q := c_lcl i_166_11 rfl rfl
theorem q_166_12 : XX d 166 12 [v0, v1, v2] [.ref a, .int x0] (mk S I L R G) Q ↔ strP (S a) (fun n => XX d 166 15 [v0, v1, v2] [.int (Int32.ofNat n), .int x0] (mk S I L R G) Q) := r_sln i_166_12 rfl rfl (Nat.le_of_ble_eq_true rfl)
theorem q_166_15 : XX d 166 15 [v0, v1, v2] (.int y :: .int x :: st) A Q ↔ if x = y then XX d 166 20 [v0, v1, v2] st A Q else XX d 166 18 [v0, v1, v2] st A Q := b_eq i_166_15 rfl rfl rfl
theorem q_166_18 : XX d 166 18 [v0, v1, v2] st A Q ↔ XX d 166 19 [v0, v1, v2] (.int (w 0) :: st) A Q := c_stk i_166_18 rfl
theorem q_166_19 : XX d 166 19 [v0, v1, v2] [.int x] A Q ↔ (x = w 0 ∨ x = w 1) ∧ Q (.inl (some (.int x))) A := e_retZ i_166_19 rfl
theorem q_166_20 : XX d 166 20 [v0, v1, v2] st A Q ↔ XX d 166 21 [v0, v1, v2] (.int (w 0) :: st) A Q := c_stk i_166_20 rfl
theorem q_166_21 : XX d 166 21 [v0, some (.ref b), v2] (.int x :: st) A Q ↔ XX d 166 22 [v0, some (.ref b), some (.int x)] st A Q := c_lcl i_166_21 rfl rfl
theorem q_166_22 : XX d 166 22 [v0, v1, some (.int x)] st A Q ↔ XX d 166 23 [v0, v1, some (.int x)] (.int x :: st) A Q := c_lcl i_166_22 rfl rfl
theorem q_166_23 : XX d 166 23 [v0, some (.ref a), v2] st A Q ↔ XX d 166 24 [v0, some (.ref a), v2] (.ref a :: st) A Q := c_lcl i_166_23 rfl rfl
theorem q_166_24 : XX d 166 24 [v0, v1, v2] [.ref a, .int x0] (mk S I L R G) Q ↔ strP (S a) (fun n => XX d 166 27 [v0, v1, v2] [.int (Int32.ofNat n), .int x0] (mk S I L R G) Q) := r_sln i_166_24 rfl rfl (Nat.le_of_ble_eq_true rfl)
theorem q_166_27 : XX d 166 27 [v0, v1, v2] (.int y :: .int x :: st) A Q ↔ if x < y then XX d 166 30 [v0, v1, v2] st A Q else XX d 166 56 [v0, v1, v2] st A Q := b_ge i_166_27 rfl rfl rfl
theorem q_166_30 : XX d 166 30 [some (.ref a), v1, v2] st A Q ↔ XX d 166 31 [some (.ref a), v1, v2] (.ref a :: st) A Q := c_lcl i_166_30 rfl rfl
theorem q_166_31 : XX d 166 31 [some (.ref a), v1, v2] st A Q ↔ XX d 166 32 [some (.ref a), v1, v2] (.ref a :: st) A Q := c_lcl i_166_31 rfl rfl
theorem q_166_32 : XX d 166 32 [v0, v1, v2] (.ref a :: st) (mk S I L R G) Q ↔ S a = some (.inr 12) ∧ XX d 166 35 [v0, v1, v2] (.int (I a 4) :: st) (mk S I L R G) Q := r_gf i_166_32 rfl (by decide) rfl
theorem q_166_35 : XX d 166 35 [v0, v1, some (.int x)] st A Q ↔ XX d 166 36 [v0, v1, some (.int x)] (.int x :: st) A Q := c_lcl i_166_35 rfl rfl
theorem q_166_36 : XX d 166 36 [v0, v1, v2] (.int y :: .int x :: st) A Q ↔ XX d 166 37 [v0, v1, v2] (.int (x + y) :: st) A Q := c_stk i_166_36 rfl
theorem q_166_37 : XX (d + 1) 166 37 [v0, v1, v2] [.int x1, .ref a0] (mk S I L R G) Q ↔ S a0 = some (.inr 12) ∧ XC d 158 [.ref a0, .int x1] (mk S I L R G) (XK (d + 1) 166 37 [v0, v1, v2] [] Q) := c_callV i_166_37 rfl rfl rfl rfl (Nat.le_of_ble_eq_true rfl) (Nat.le_of_ble_eq_true rfl) rfl
theorem q_166_40 : XX d 166 40 [v0, some (.ref a), v2] st A Q ↔ XX d 166 41 [v0, some (.ref a), v2] (.ref a :: st) A Q := c_lcl i_166_40 rfl rfl
theorem q_166_41 : XX d 166 41 [v0, v1, some (.int x)] st A Q ↔ XX d 166 42 [v0, v1, some (.int x)] (.int x :: st) A Q := c_lcl i_166_41 rfl rfl
theorem q_166_42 : XX d 166 42 [v0, v1, v2] [.int x, .ref a, .int x0] (mk S I L R G) Q ↔ strP (S a) (fun n => x_in x n = true ∧ XX d 166 45 [v0, v1, v2] [.int (I a (ix x)), .int x0] (mk S I L R G) Q) := r_sch i_166_42 rfl rfl (Nat.le_of_ble_eq_true rfl)
theorem q_166_45 : XX d 166 45 [v0, v1, v2] (.int y :: .int x :: st) A Q ↔ if x = y then XX d 166 50 [v0, v1, v2] st A Q else XX d 166 48 [v0, v1, v2] st A Q := b_eq i_166_45 rfl rfl rfl
theorem q_166_48 : XX d 166 48 [v0, v1, v2] st A Q ↔ XX d 166 49 [v0, v1, v2] (.int (w 0) :: st) A Q := c_stk i_166_48 rfl
theorem q_166_49 : XX d 166 49 [v0, v1, v2] [.int x] A Q ↔ (x = w 0 ∨ x = w 1) ∧ Q (.inl (some (.int x))) A := e_retZ i_166_49 rfl
theorem q_166_50 : XX d 166 50 [v0, some (.ref b), some (.int x)] st A Q ↔ XX d 166 53 [v0, some (.ref b), some (.int (x + w 1))] st A Q := c_lcl i_166_50 rfl rfl
theorem q_166_53 : XX d 166 53 [v0, v1, v2] st A Q ↔ XX d 166 22 [v0, v1, v2] st A Q := c_go i_166_53 rfl rfl
theorem q_166_56 : XX d 166 56 [some (.ref a), v1, v2] st A Q ↔ XX d 166 57 [some (.ref a), v1, v2] (.ref a :: st) A Q := c_lcl i_166_56 rfl rfl
theorem q_166_57 : XX d 166 57 [v0, v1, v2] (.ref a1 :: st) A Q ↔ XX d 166 58 [v0, v1, v2] (.ref a1 :: .ref a1 :: st) A Q := c_stk i_166_57 rfl
theorem q_166_58 : XX d 166 58 [v0, v1, v2] (.ref a :: st) (mk S I L R G) Q ↔ S a = some (.inr 12) ∧ XX d 166 61 [v0, v1, v2] (.int (I a 4) :: st) (mk S I L R G) Q := r_gf i_166_58 rfl (by decide) rfl
theorem q_166_61 : XX d 166 61 [v0, some (.ref a), v2] st A Q ↔ XX d 166 62 [v0, some (.ref a), v2] (.ref a :: st) A Q := c_lcl i_166_61 rfl rfl
theorem q_166_62 : XX d 166 62 [v0, v1, v2] [.ref a, .int x0, .ref a1] (mk S I L R G) Q ↔ strP (S a) (fun n => XX d 166 65 [v0, v1, v2] [.int (Int32.ofNat n), .int x0, .ref a1] (mk S I L R G) Q) := r_sln i_166_62 rfl rfl (Nat.le_of_ble_eq_true rfl)
theorem q_166_65 : XX d 166 65 [v0, v1, v2] (.int y :: .int x :: st) A Q ↔ XX d 166 66 [v0, v1, v2] (.int (x + y) :: st) A Q := c_stk i_166_65 rfl
theorem q_166_66 : XX d 166 66 [v0, v1, v2] (.int x :: .ref a :: st) (mk S I L R G) Q ↔ S a = some (.inr 12) ∧ XX d 166 69 [v0, v1, v2] st (mk S (wr I a (up (I a) 4 x)) L R G) Q := r_pf i_166_66 rfl (by decide) rfl rfl rfl
theorem q_166_69 : XX d 166 69 [v0, v1, v2] st A Q ↔ XX d 166 70 [v0, v1, v2] (.int (w 1) :: st) A Q := c_stk i_166_69 rfl
theorem q_166_70 : XX d 166 70 [v0, v1, v2] [.int x] A Q ↔ (x = w 0 ∨ x = w 1) ∧ Q (.inl (some (.int x))) A := e_retZ i_166_70 rfl
theorem q_166_e : XC d 166 [.ref a0, .ref a1] A Q ↔ XX d 166 0 [some (.ref a0), some (.ref a1), none] [] A Q := Iff.rfl
theorem i_167_0 : t_ins 167 0 = some (.aload_n 0) := by decide +kernel
theorem i_167_1 : t_ins 167 1 = some (.invokevirtual 143) := by decide +kernel
theorem i_167_4 : t_ins 167 4 = some (.ifCond .eq 20) := by decide +kernel
theorem i_167_7 : t_ins 167 7 = some (.aload_n 0) := by decide +kernel
theorem i_167_8 : t_ins 167 8 = some (.aload_n 1) := by decide +kernel
theorem i_167_9 : t_ins 167 9 = some (.invokevirtual 179) := by decide +kernel
theorem i_167_12 : t_ins 167 12 = some (.ifCond .ne 12) := by decide +kernel
theorem i_167_15 : t_ins 167 15 = some (.aload_n 0) := by decide +kernel
theorem i_167_16 : t_ins 167 16 = some (.iconst 1) := by decide +kernel
theorem i_167_17 : t_ins 167 17 = some (.aload_n 0) := by decide +kernel
theorem i_167_18 : t_ins 167 18 = some (.getfield 130) := by decide +kernel
theorem i_167_21 : t_ins 167 21 = some (.invokevirtual 155) := by decide +kernel
theorem i_167_24 : t_ins 167 24 = some (.return_) := by decide +kernel
theorem q_167_0 : XX d 167 0 [some (.ref a), v1] st A Q ↔ XX d 167 1 [some (.ref a), v1] (.ref a :: st) A Q := c_lcl i_167_0 rfl rfl
theorem q_167_1 : XX (d + 1) 167 1 [v0, v1] [.ref a0] (mk S I L R G) Q ↔ S a0 = some (.inr 12) ∧ XC d 160 [.ref a0] (mk S I L R G) (XK (d + 1) 167 1 [v0, v1] [] Q) := c_callV i_167_1 rfl rfl rfl rfl (Nat.le_of_ble_eq_true rfl) (Nat.le_of_ble_eq_true rfl) rfl
theorem q_167_4 : XX d 167 4 [v0, v1] (.int x :: st) A Q ↔ if x = w 0 then XX d 167 24 [v0, v1] st A Q else XX d 167 7 [v0, v1] st A Q := z_eq i_167_4 rfl rfl rfl
theorem q_167_7 : XX d 167 7 [some (.ref a), v1] st A Q ↔ XX d 167 8 [some (.ref a), v1] (.ref a :: st) A Q := c_lcl i_167_7 rfl rfl
theorem q_167_8 : XX d 167 8 [v0, some (.ref a)] st A Q ↔ XX d 167 9 [v0, some (.ref a)] (.ref a :: st) A Q := c_lcl i_167_8 rfl rfl
theorem q_167_9 : XX (d + 1) 167 9 [v0, v1] [.ref a1, .ref a0] (mk S I L R G) Q ↔ S a0 = some (.inr 12) ∧ XC d 166 [.ref a0, .ref a1] (mk S I L R G) (XK (d + 1) 167 9 [v0, v1] [] Q) := c_callV i_167_9 rfl rfl rfl rfl (Nat.le_of_ble_eq_true rfl) (Nat.le_of_ble_eq_true rfl) rfl
theorem q_167_12 : XX d 167 12 [v0, v1] (.int x :: st) A Q ↔ if x = w 0 then XX d 167 15 [v0, v1] st A Q else XX d 167 24 [v0, v1] st A Q := z_ne i_167_12 rfl rfl rfl
theorem q_167_15 : XX d 167 15 [some (.ref a), v1] st A Q ↔ XX d 167 16 [some (.ref a), v1] (.ref a :: st) A Q := c_lcl i_167_15 rfl rfl
theorem q_167_16 : XX d 167 16 [v0, v1] st A Q ↔ XX d 167 17 [v0, v1] (.int (w 1) :: st) A Q := c_stk i_167_16 rfl
theorem q_167_17 : XX d 167 17 [some (.ref a), v1] st A Q ↔ XX d 167 18 [some (.ref a), v1] (.ref a :: st) A Q := c_lcl i_167_17 rfl rfl
theorem q_167_18 : XX d 167 18 [v0, v1] (.ref a :: st) (mk S I L R G) Q ↔ S a = some (.inr 12) ∧ XX d 167 21 [v0, v1] (.int (I a 4) :: st) (mk S I L R G) Q := r_gf i_167_18 rfl (by decide) rfl
theorem q_167_21 : XX (d + 1) 167 21 [v0, v1] [.int x2, .int x1, .ref a0] (mk S I L R G) Q ↔ S a0 = some (.inr 12) ∧ XC d 161 [.ref a0, .int x1, .int x2] (mk S I L R G) (XK (d + 1) 167 21 [v0, v1] [] Q) := c_callV i_167_21 rfl rfl rfl rfl (Nat.le_of_ble_eq_true rfl) (Nat.le_of_ble_eq_true rfl) rfl
theorem q_167_24 : XX d 167 24 [v0, v1] [] A Q ↔ Q (.inl none) A := e_retN i_167_24 rfl
theorem q_167_e : XC d 167 [.ref a0, .ref a1] A Q ↔ XX d 167 0 [some (.ref a0), some (.ref a1)] [] A Q := Iff.rfl
theorem i_168_0 : t_ins 168 0 = some (.aload_n 0) := by decide +kernel
theorem i_168_1 : t_ins 168 1 = some (.invokevirtual 143) := by decide +kernel
theorem i_168_4 : t_ins 168 4 = some (.ifCond .ne 4) := by decide +kernel
theorem i_168_7 : t_ins 168 7 = some (.return_) := by decide +kernel
theorem i_168_8 : t_ins 168 8 = some (.aload_n 0) := by decide +kernel
theorem i_168_9 : t_ins 168 9 = some (.invokevirtual 147) := by decide +kernel
theorem i_168_12 : t_ins 168 12 = some (.bipush 59) := by decide +kernel
theorem i_168_14 : t_ins 168 14 = some (.if_icmp .ne 16) := by decide +kernel
theorem i_168_17 : t_ins 168 17 = some (.aload_n 0) := by decide +kernel
theorem i_168_18 : t_ins 168 18 = some (.dup) := by decide +kernel
theorem i_168_19 : t_ins 168 19 = some (.getfield 130) := by decide +kernel
theorem i_168_22 : t_ins 168 22 = some (.iconst 1) := by decide +kernel
theorem i_168_23 : t_ins 168 23 = some (.iadd) := by decide +kernel
theorem i_168_24 : t_ins 168 24 = some (.putfield 130) := by decide +kernel
theorem i_168_27 : t_ins 168 27 = some (.goto 12) := by decide +kernel
theorem i_168_30 : t_ins 168 30 = some (.aload_n 0) := by decide +kernel
theorem i_168_31 : t_ins 168 31 = some (.iconst 1) := by decide +kernel
theorem i_168_32 : t_ins 168 32 = some (.aload_n 0) := by decide +kernel
theorem i_168_33 : t_ins 168 33 = some (.getfield 130) := by decide +kernel
theorem i_168_36 : t_ins 168 36 = some (.invokevirtual 155) := by decide +kernel
theorem i_168_39 : t_ins 168 39 = some (.return_) := by decide +kernel
theorem q_168_0 : XX d 168 0 [some (.ref a)] st A Q ↔ XX d 168 1 [some (.ref a)] (.ref a :: st) A Q := c_lcl i_168_0 rfl rfl
theorem q_168_1 : XX (d + 1) 168 1 [v0] [.ref a0] (mk S I L R G) Q ↔ S a0 = some (.inr 12) ∧ XC d 160 [.ref a0] (mk S I L R G) (XK (d + 1) 168 1 [v0] [] Q) := c_callV i_168_1 rfl rfl rfl rfl (Nat.le_of_ble_eq_true rfl) (Nat.le_of_ble_eq_true rfl) rfl
theorem q_168_4 : XX d 168 4 [v0] (.int x :: st) A Q ↔ if x = w 0 then XX d 168 7 [v0] st A Q else XX d 168 8 [v0] st A Q := z_ne i_168_4 rfl rfl rfl
theorem q_168_7 : XX d 168 7 [v0] [] A Q ↔ Q (.inl none) A := e_retN i_168_7 rfl
theorem q_168_8 : XX d 168 8 [some (.ref a)] st A Q ↔ XX d 168 9 [some (.ref a)] (.ref a :: st) A Q := c_lcl i_168_8 rfl rfl
theorem q_168_9 : XX (d + 1) 168 9 [v0] [.ref a0] (mk S I L R G) Q ↔ S a0 = some (.inr 12) ∧ XC d 159 [.ref a0] (mk S I L R G) (XK (d + 1) 168 9 [v0] [] Q) := c_callV i_168_9 rfl rfl rfl rfl (Nat.le_of_ble_eq_true rfl) (Nat.le_of_ble_eq_true rfl) rfl
theorem q_168_12 : XX d 168 12 [v0] st A Q ↔ XX d 168 14 [v0] (.int (w 59) :: st) A Q := c_stk i_168_12 rfl
theorem q_168_14 : XX d 168 14 [v0] (.int y :: .int x :: st) A Q ↔ if x = y then XX d 168 17 [v0] st A Q else XX d 168 30 [v0] st A Q := b_ne i_168_14 rfl rfl rfl
theorem q_168_17 : XX d 168 17 [some (.ref a)] st A Q ↔ XX d 168 18 [some (.ref a)] (.ref a :: st) A Q := c_lcl i_168_17 rfl rfl
theorem q_168_18 : XX d 168 18 [v0] (.ref a1 :: st) A Q ↔ XX d 168 19 [v0] (.ref a1 :: .ref a1 :: st) A Q := c_stk i_168_18 rfl
theorem q_168_19 : XX d 168 19 [v0] (.ref a :: st) (mk S I L R G) Q ↔ S a = some (.inr 12) ∧ XX d 168 22 [v0] (.int (I a 4) :: st) (mk S I L R G) Q := r_gf i_168_19 rfl (by decide) rfl
theorem q_168_22 : XX d 168 22 [v0] st A Q ↔ XX d 168 23 [v0] (.int (w 1) :: st) A Q := c_stk i_168_22 rfl
theorem q_168_23 : XX d 168 23 [v0] (.int y :: .int x :: st) A Q ↔ XX d 168 24 [v0] (.int (x + y) :: st) A Q := c_stk i_168_23 rfl
theorem q_168_24 : XX d 168 24 [v0] (.int x :: .ref a :: st) (mk S I L R G) Q ↔ S a = some (.inr 12) ∧ XX d 168 27 [v0] st (mk S (wr I a (up (I a) 4 x)) L R G) Q := r_pf i_168_24 rfl (by decide) rfl rfl rfl
theorem q_168_27 : XX d 168 27 [v0] st A Q ↔ XX d 168 39 [v0] st A Q := c_go i_168_27 rfl rfl
theorem q_168_30 : XX d 168 30 [some (.ref a)] st A Q ↔ XX d 168 31 [some (.ref a)] (.ref a :: st) A Q := c_lcl i_168_30 rfl rfl
theorem q_168_31 : XX d 168 31 [v0] st A Q ↔ XX d 168 32 [v0] (.int (w 1) :: st) A Q := c_stk i_168_31 rfl
theorem q_168_32 : XX d 168 32 [some (.ref a)] st A Q ↔ XX d 168 33 [some (.ref a)] (.ref a :: st) A Q := c_lcl i_168_32 rfl rfl
theorem q_168_33 : XX d 168 33 [v0] (.ref a :: st) (mk S I L R G) Q ↔ S a = some (.inr 12) ∧ XX d 168 36 [v0] (.int (I a 4) :: st) (mk S I L R G) Q := r_gf i_168_33 rfl (by decide) rfl
theorem q_168_36 : XX (d + 1) 168 36 [v0] [.int x2, .int x1, .ref a0] (mk S I L R G) Q ↔ S a0 = some (.inr 12) ∧ XC d 161 [.ref a0, .int x1, .int x2] (mk S I L R G) (XK (d + 1) 168 36 [v0] [] Q) := c_callV i_168_36 rfl rfl rfl rfl (Nat.le_of_ble_eq_true rfl) (Nat.le_of_ble_eq_true rfl) rfl
theorem q_168_39 : XX d 168 39 [v0] [] A Q ↔ Q (.inl none) A := e_retN i_168_39 rfl
theorem q_168_e : XC d 168 [.ref a0] A Q ↔ XX d 168 0 [some (.ref a0)] [] A Q := Iff.rfl
theorem i_169_0 : t_ins 169 0 = some (.iload_n 0) := by decide +kernel
theorem i_169_1 : t_ins 169 1 = some (.lookupswitch 72 #[(35, 63), (37, 61), (43, 67), (45, 65), (47, 59), (126, 69)]) := by decide +kernel
theorem i_169_60 : t_ins 169 60 = some (.iconst 1) := by decide +kernel
theorem i_169_61 : t_ins 169 61 = some (.ireturn) := by decide +kernel
theorem i_169_62 : t_ins 169 62 = some (.iconst 2) := by decide +kernel
theorem i_169_63 : t_ins 169 63 = some (.ireturn) := by decide +kernel
theorem i_169_64 : t_ins 169 64 = some (.iconst 3) := by decide +kernel
theorem i_169_65 : t_ins 169 65 = some (.ireturn) := by decide +kernel
theorem i_169_66 : t_ins 169 66 = some (.iconst 4) := by decide +kernel
theorem i_169_67 : t_ins 169 67 = some (.ireturn) := by decide +kernel
theorem i_169_68 : t_ins 169 68 = some (.iconst 5) := by decide +kernel
theorem i_169_69 : t_ins 169 69 = some (.ireturn) := by decide +kernel
theorem i_169_70 : t_ins 169 70 = some (.bipush 6) := by decide +kernel
theorem i_169_72 : t_ins 169 72 = some (.ireturn) := by decide +kernel
theorem i_169_73 : t_ins 169 73 = some (.iload_n 0) := by decide +kernel
theorem i_169_74 : t_ins 169 74 = some (.invokestatic 165) := by decide +kernel
theorem i_169_77 : t_ins 169 77 = some (.ifCond .eq 7) := by decide +kernel
theorem i_169_80 : t_ins 169 80 = some (.iconst 0) := by decide +kernel
theorem i_169_81 : t_ins 169 81 = some (.goto 4) := by decide +kernel
theorem i_169_84 : t_ins 169 84 = some (.iconst (-1)) := by decide +kernel
theorem i_169_85 : t_ins 169 85 = some (.ireturn) := by decide +kernel
theorem q_169_0 : XX d 169 0 [some (.int x)] st A Q ↔ XX d 169 1 [some (.int x)] (.int x :: st) A Q := c_lcl i_169_0 rfl rfl
theorem q_169_1 : XX d 169 1 [v0] (.int x :: st) A Q ↔ XX d 169 (swL [(35, 64), (37, 62), (43, 68), (45, 66), (47, 60), (126, 70)] 73 x.toInt) [v0] st A Q := c_look i_169_1 rfl rfl rfl rfl
theorem q_169_60 : XX d 169 60 [v0] st A Q ↔ XX d 169 61 [v0] (.int (w 1) :: st) A Q := c_stk i_169_60 rfl
theorem q_169_61 : XX d 169 61 [v0] [.int x] A Q ↔ Q (.inl (some (.int x))) A := e_retI i_169_61 rfl
theorem q_169_62 : XX d 169 62 [v0] st A Q ↔ XX d 169 63 [v0] (.int (w 2) :: st) A Q := c_stk i_169_62 rfl
theorem q_169_63 : XX d 169 63 [v0] [.int x] A Q ↔ Q (.inl (some (.int x))) A := e_retI i_169_63 rfl
theorem q_169_64 : XX d 169 64 [v0] st A Q ↔ XX d 169 65 [v0] (.int (w 3) :: st) A Q := c_stk i_169_64 rfl
theorem q_169_65 : XX d 169 65 [v0] [.int x] A Q ↔ Q (.inl (some (.int x))) A := e_retI i_169_65 rfl
theorem q_169_66 : XX d 169 66 [v0] st A Q ↔ XX d 169 67 [v0] (.int (w 4) :: st) A Q := c_stk i_169_66 rfl
theorem q_169_67 : XX d 169 67 [v0] [.int x] A Q ↔ Q (.inl (some (.int x))) A := e_retI i_169_67 rfl
theorem q_169_68 : XX d 169 68 [v0] st A Q ↔ XX d 169 69 [v0] (.int (w 5) :: st) A Q := c_stk i_169_68 rfl
theorem q_169_69 : XX d 169 69 [v0] [.int x] A Q ↔ Q (.inl (some (.int x))) A := e_retI i_169_69 rfl
theorem q_169_70 : XX d 169 70 [v0] st A Q ↔ XX d 169 72 [v0] (.int (w 6) :: st) A Q := c_stk i_169_70 rfl
theorem q_169_72 : XX d 169 72 [v0] [.int x] A Q ↔ Q (.inl (some (.int x))) A := e_retI i_169_72 rfl
theorem q_169_73 : XX d 169 73 [some (.int x)] st A Q ↔ XX d 169 74 [some (.int x)] (.int x :: st) A Q := c_lcl i_169_73 rfl rfl
theorem q_169_74 : XX (d + 1) 169 74 [v0] [.int x0] A Q ↔ XC d 163 [.int x0] A (XK (d + 1) 169 74 [v0] [] Q) := c_callS i_169_74 rfl rfl rfl rfl (Nat.le_of_ble_eq_true rfl) (Nat.le_of_ble_eq_true rfl)
theorem q_169_77 : XX d 169 77 [v0] (.int x :: st) A Q ↔ if x = w 0 then XX d 169 84 [v0] st A Q else XX d 169 80 [v0] st A Q := z_eq i_169_77 rfl rfl rfl
theorem q_169_80 : XX d 169 80 [v0] st A Q ↔ XX d 169 81 [v0] (.int (w 0) :: st) A Q := c_stk i_169_80 rfl
theorem q_169_81 : XX d 169 81 [v0] st A Q ↔ XX d 169 85 [v0] st A Q := c_go i_169_81 rfl rfl
theorem q_169_84 : XX d 169 84 [v0] st A Q ↔ XX d 169 85 [v0] (.int (w (-1)) :: st) A Q := c_stk i_169_84 rfl
theorem q_169_85 : XX d 169 85 [v0] [.int x] A Q ↔ Q (.inl (some (.int x))) A := e_retI i_169_85 rfl
theorem q_169_e : XC d 169 [.int x0] A Q ↔ XX d 169 0 [some (.int x0)] [] A Q := Iff.rfl
theorem i_170_0 : t_ins 170 0 = some (.aload_n 0) := by decide +kernel
theorem i_170_1 : t_ins 170 1 = some (.invokevirtual 147) := by decide +kernel
theorem i_170_4 : t_ins 170 4 = some (.istore 4) := by decide +kernel
theorem i_170_6 : t_ins 170 6 = some (.iload 4) := by decide +kernel
theorem i_170_8 : t_ins 170 8 = some (.invokestatic 183) := by decide +kernel
theorem i_170_11 : t_ins 170 11 = some (.istore 5) := by decide +kernel
theorem i_170_13 : t_ins 170 13 = some (.iload 5) := by decide +kernel
theorem i_170_15 : t_ins 170 15 = some (.ifCond .ne 10) := by decide +kernel
theorem i_170_18 : t_ins 170 18 = some (.aload_n 0) := by decide +kernel
theorem i_170_19 : t_ins 170 19 = some (.invokevirtual 168) := by decide +kernel
theorem i_170_22 : t_ins 170 22 = some (.goto 4) := by decide +kernel
theorem i_170_25 : t_ins 170 25 = some (.iconst 1) := by decide +kernel
theorem i_170_26 : t_ins 170 26 = some (.istore 6) := by decide +kernel
theorem i_170_28 : t_ins 170 28 = some (.iload 5) := by decide +kernel
theorem i_170_30 : t_ins 170 30 = some (.ifCond .ne 19) := by decide +kernel
theorem i_170_33 : t_ins 170 33 = some (.iload 6) := by decide +kernel
theorem i_170_35 : t_ins 170 35 = some (.bipush 8) := by decide +kernel
theorem i_170_37 : t_ins 170 37 = some (.if_icmp .le 12) := by decide +kernel
theorem i_170_40 : t_ins 170 40 = some (.aload_n 0) := by decide +kernel
theorem i_170_41 : t_ins 170 41 = some (.iconst 1) := by decide +kernel
theorem i_170_42 : t_ins 170 42 = some (.aload_n 0) := by decide +kernel
theorem i_170_43 : t_ins 170 43 = some (.getfield 130) := by decide +kernel
theorem i_170_46 : t_ins 170 46 = some (.invokevirtual 155) := by decide +kernel
theorem i_170_49 : t_ins 170 49 = some (.iload 5) := by decide +kernel
theorem i_170_51 : t_ins 170 51 = some (.bipush 6) := by decide +kernel
theorem i_170_53 : t_ins 170 53 = some (.if_icmp .ne 30) := by decide +kernel
theorem i_170_56 : t_ins 170 56 = some (.iload_n 2) := by decide +kernel
theorem i_170_57 : t_ins 170 57 = some (.ifCond .eq 17) := by decide +kernel
theorem i_170_60 : t_ins 170 60 = some (.aload_n 1) := by decide +kernel
theorem i_170_61 : t_ins 170 61 = some (.iconst 5) := by decide +kernel
theorem i_170_62 : t_ins 170 62 = some (.iconst 2) := by decide +kernel
theorem i_170_63 : t_ins 170 63 = some (.iload_n 2) := by decide +kernel
theorem i_170_64 : t_ins 170 64 = some (.imul) := by decide +kernel
theorem i_170_65 : t_ins 170 65 = some (.iadd) := by decide +kernel
theorem i_170_66 : t_ins 170 66 = some (.iconst 2) := by decide +kernel
theorem i_170_67 : t_ins 170 67 = some (.isub) := by decide +kernel
theorem i_170_68 : t_ins 170 68 = some (.iaload) := by decide +kernel
theorem i_170_69 : t_ins 170 69 = some (.bipush 6) := by decide +kernel
theorem i_170_71 : t_ins 170 71 = some (.if_icmp .ne 12) := by decide +kernel
theorem i_170_74 : t_ins 170 74 = some (.aload_n 0) := by decide +kernel
theorem i_170_75 : t_ins 170 75 = some (.iconst 4) := by decide +kernel
theorem i_170_76 : t_ins 170 76 = some (.aload_n 0) := by decide +kernel
theorem i_170_77 : t_ins 170 77 = some (.getfield 130) := by decide +kernel
theorem i_170_80 : t_ins 170 80 = some (.invokevirtual 155) := by decide +kernel
theorem i_170_83 : t_ins 170 83 = some (.aload_n 0) := by decide +kernel
theorem i_170_84 : t_ins 170 84 = some (.invokevirtual 143) := by decide +kernel
theorem i_170_87 : t_ins 170 87 = some (.ifCond .ne 4) := by decide +kernel
theorem i_170_90 : t_ins 170 90 = some (.return_) := by decide +kernel
theorem i_170_91 : t_ins 170 91 = some (.aload_n 1) := by decide +kernel
theorem i_170_92 : t_ins 170 92 = some (.iconst 5) := by decide +kernel
theorem i_170_93 : t_ins 170 93 = some (.iconst 2) := by decide +kernel
theorem i_170_94 : t_ins 170 94 = some (.iload_n 2) := by decide +kernel
theorem i_170_95 : t_ins 170 95 = some (.imul) := by decide +kernel
theorem i_170_96 : t_ins 170 96 = some (.iadd) := by decide +kernel
theorem i_170_97 : t_ins 170 97 = some (.iload 5) := by decide +kernel
theorem i_170_99 : t_ins 170 99 = some (.iastore) := by decide +kernel
theorem i_170_100 : t_ins 170 100 = some (.aload_n 1) := by decide +kernel
theorem i_170_101 : t_ins 170 101 = some (.iconst 5) := by decide +kernel
theorem i_170_102 : t_ins 170 102 = some (.iconst 2) := by decide +kernel
theorem i_170_103 : t_ins 170 103 = some (.iload_n 2) := by decide +kernel
theorem i_170_104 : t_ins 170 104 = some (.imul) := by decide +kernel
theorem i_170_105 : t_ins 170 105 = some (.iadd) := by decide +kernel
theorem i_170_106 : t_ins 170 106 = some (.iconst 1) := by decide +kernel
theorem i_170_107 : t_ins 170 107 = some (.iadd) := by decide +kernel
theorem i_170_108 : t_ins 170 108 = some (.iload 5) := by decide +kernel
theorem i_170_110 : t_ins 170 110 = some (.ifCond .ne 8) := by decide +kernel
theorem i_170_113 : t_ins 170 113 = some (.iload 6) := by decide +kernel
theorem i_170_115 : t_ins 170 115 = some (.goto 4) := by decide +kernel
theorem i_170_118 : t_ins 170 118 = some (.iconst 0) := by decide +kernel
theorem i_170_119 : t_ins 170 119 = some (.iastore) := by decide +kernel
theorem i_170_120 : t_ins 170 120 = some (.iconst 0) := by decide +kernel
theorem i_170_121 : t_ins 170 121 = some (.istore 7) := by decide +kernel
theorem i_170_123 : t_ins 170 123 = some (.iload 7) := by decide +kernel
theorem i_170_125 : t_ins 170 125 = some (.iload 6) := by decide +kernel
theorem i_170_127 : t_ins 170 127 = some (.if_icmp .ge 30) := by decide +kernel
theorem i_170_130 : t_ins 170 130 = some (.iload 5) := by decide +kernel
theorem i_170_132 : t_ins 170 132 = some (.ifCond .ne 25) := by decide +kernel
theorem i_170_135 : t_ins 170 135 = some (.aload_n 3) := by decide +kernel
theorem i_170_136 : t_ins 170 136 = some (.iload 7) := by decide +kernel
theorem i_170_138 : t_ins 170 138 = some (.aload_n 0) := by decide +kernel
theorem i_170_139 : t_ins 170 139 = some (.aload_n 0) := by decide +kernel
theorem i_170_140 : t_ins 170 140 = some (.getfield 130) := by decide +kernel
theorem i_170_143 : t_ins 170 143 = some (.iload 7) := by decide +kernel
theorem i_170_145 : t_ins 170 145 = some (.iadd) := by decide +kernel
theorem i_170_146 : t_ins 170 146 = some (.invokevirtual 133) := by decide +kernel
theorem i_170_149 : t_ins 170 149 = some (.i2b) := by decide +kernel
theorem i_170_150 : t_ins 170 150 = some (.bastore) := by decide +kernel
theorem i_170_151 : t_ins 170 151 = some (.iinc 7 1) := by decide +kernel
theorem i_170_154 : t_ins 170 154 = some (.goto (-31)) := by decide +kernel
theorem i_170_157 : t_ins 170 157 = some (.aload_n 0) := by decide +kernel
theorem i_170_158 : t_ins 170 158 = some (.dup) := by decide +kernel
theorem i_170_159 : t_ins 170 159 = some (.getfield 130) := by decide +kernel
theorem i_170_162 : t_ins 170 162 = some (.iload 6) := by decide +kernel
theorem i_170_164 : t_ins 170 164 = some (.iadd) := by decide +kernel
theorem i_170_165 : t_ins 170 165 = some (.putfield 130) := by decide +kernel
theorem i_170_168 : t_ins 170 168 = some (.iload 5) := by decide +kernel
theorem i_170_170 : t_ins 170 170 = some (.ifCond .eq 26) := by decide +kernel
theorem i_170_173 : t_ins 170 173 = some (.iload 5) := by decide +kernel
theorem i_170_175 : t_ins 170 175 = some (.bipush 6) := by decide +kernel
theorem i_170_177 : t_ins 170 177 = some (.if_icmp .eq 19) := by decide +kernel
theorem i_170_180 : t_ins 170 180 = some (.aload_n 1) := by decide +kernel
theorem i_170_181 : t_ins 170 181 = some (.iconst 5) := by decide +kernel
theorem i_170_182 : t_ins 170 182 = some (.iconst 2) := by decide +kernel
theorem i_170_183 : t_ins 170 183 = some (.iload_n 2) := by decide +kernel
theorem i_170_184 : t_ins 170 184 = some (.imul) := by decide +kernel
theorem i_170_185 : t_ins 170 185 = some (.iadd) := by decide +kernel
theorem i_170_186 : t_ins 170 186 = some (.iconst 1) := by decide +kernel
theorem i_170_187 : t_ins 170 187 = some (.iadd) := by decide +kernel
theorem i_170_188 : t_ins 170 188 = some (.aload_n 0) := by decide +kernel
theorem i_170_189 : t_ins 170 189 = some (.iconst 1) := by decide +kernel
theorem i_170_190 : t_ins 170 190 = some (.ldc 186) := by decide +kernel
theorem i_170_192 : t_ins 170 192 = some (.invokevirtual 187) := by decide +kernel
theorem i_170_195 : t_ins 170 195 = some (.iastore) := by decide +kernel
theorem i_170_196 : t_ins 170 196 = some (.return_) := by decide +kernel
theorem q_170_0 : XX d 170 0 [some (.ref a), v1, v2, v3, v4, v5, v6, v7] st A Q ↔ XX d 170 1 [some (.ref a), v1, v2, v3, v4, v5, v6, v7] (.ref a :: st) A Q := c_lcl i_170_0 rfl rfl
theorem q_170_1 : XX (d + 1) 170 1 [v0, v1, v2, v3, v4, v5, v6, v7] [.ref a0] (mk S I L R G) Q ↔ S a0 = some (.inr 12) ∧ XC d 159 [.ref a0] (mk S I L R G) (XK (d + 1) 170 1 [v0, v1, v2, v3, v4, v5, v6, v7] [] Q) := c_callV i_170_1 rfl rfl rfl rfl (Nat.le_of_ble_eq_true rfl) (Nat.le_of_ble_eq_true rfl) rfl
theorem q_170_4 : XX d 170 4 [v0, v1, v2, some (.ref b), v4, v5, v6, v7] (.int x :: st) A Q ↔ XX d 170 6 [v0, v1, v2, some (.ref b), some (.int x), v5, v6, v7] st A Q := c_lcl i_170_4 rfl rfl
theorem q_170_6 : XX d 170 6 [v0, v1, v2, v3, some (.int x), v5, v6, v7] st A Q ↔ XX d 170 8 [v0, v1, v2, v3, some (.int x), v5, v6, v7] (.int x :: st) A Q := c_lcl i_170_6 rfl rfl
theorem q_170_8 : XX (d + 1) 170 8 [v0, v1, v2, v3, v4, v5, v6, v7] [.int x0] A Q ↔ XC d 169 [.int x0] A (XK (d + 1) 170 8 [v0, v1, v2, v3, v4, v5, v6, v7] [] Q) := c_callS i_170_8 rfl rfl rfl rfl (Nat.le_of_ble_eq_true rfl) (Nat.le_of_ble_eq_true rfl)
theorem q_170_11 : XX d 170 11 [v0, v1, v2, v3, some (.int z), v5, v6, v7] (.int x :: st) A Q ↔ XX d 170 13 [v0, v1, v2, v3, some (.int z), some (.int x), v6, v7] st A Q := c_lcl i_170_11 rfl rfl
theorem q_170_13 : XX d 170 13 [v0, v1, v2, v3, v4, some (.int x), v6, v7] st A Q ↔ XX d 170 15 [v0, v1, v2, v3, v4, some (.int x), v6, v7] (.int x :: st) A Q := c_lcl i_170_13 rfl rfl
theorem q_170_15 : XX d 170 15 [v0, v1, v2, v3, v4, v5, v6, v7] (.int x :: st) A Q ↔ if x = w 0 then XX d 170 18 [v0, v1, v2, v3, v4, v5, v6, v7] st A Q else XX d 170 25 [v0, v1, v2, v3, v4, v5, v6, v7] st A Q := z_ne i_170_15 rfl rfl rfl
theorem q_170_18 : XX d 170 18 [some (.ref a), v1, v2, v3, v4, v5, v6, v7] st A Q ↔ XX d 170 19 [some (.ref a), v1, v2, v3, v4, v5, v6, v7] (.ref a :: st) A Q := c_lcl i_170_18 rfl rfl
theorem q_170_19 : XX (d + 1) 170 19 [v0, v1, v2, v3, v4, v5, v6, v7] [.ref a0] (mk S I L R G) Q ↔ S a0 = some (.inr 12) ∧ XC d 165 [.ref a0] (mk S I L R G) (XK (d + 1) 170 19 [v0, v1, v2, v3, v4, v5, v6, v7] [] Q) := c_callV i_170_19 rfl rfl rfl rfl (Nat.le_of_ble_eq_true rfl) (Nat.le_of_ble_eq_true rfl) rfl
theorem q_170_22 : XX d 170 22 [v0, v1, v2, v3, v4, v5, v6, v7] st A Q ↔ XX d 170 26 [v0, v1, v2, v3, v4, v5, v6, v7] st A Q := c_go i_170_22 rfl rfl
theorem q_170_25 : XX d 170 25 [v0, v1, v2, v3, v4, v5, v6, v7] st A Q ↔ XX d 170 26 [v0, v1, v2, v3, v4, v5, v6, v7] (.int (w 1) :: st) A Q := c_stk i_170_25 rfl
theorem q_170_26 : XX d 170 26 [v0, v1, v2, v3, v4, some (.int z), v6, v7] (.int x :: st) A Q ↔ XX d 170 28 [v0, v1, v2, v3, v4, some (.int z), some (.int x), v7] st A Q := c_lcl i_170_26 rfl rfl
theorem q_170_28 : XX d 170 28 [v0, v1, v2, v3, v4, some (.int x), v6, v7] st A Q ↔ XX d 170 30 [v0, v1, v2, v3, v4, some (.int x), v6, v7] (.int x :: st) A Q := c_lcl i_170_28 rfl rfl
theorem q_170_30 : XX d 170 30 [v0, v1, v2, v3, v4, v5, v6, v7] (.int x :: st) A Q ↔ if x = w 0 then XX d 170 33 [v0, v1, v2, v3, v4, v5, v6, v7] st A Q else XX d 170 49 [v0, v1, v2, v3, v4, v5, v6, v7] st A Q := z_ne i_170_30 rfl rfl rfl
theorem q_170_33 : XX d 170 33 [v0, v1, v2, v3, v4, v5, some (.int x), v7] st A Q ↔ XX d 170 35 [v0, v1, v2, v3, v4, v5, some (.int x), v7] (.int x :: st) A Q := c_lcl i_170_33 rfl rfl
theorem q_170_35 : XX d 170 35 [v0, v1, v2, v3, v4, v5, v6, v7] st A Q ↔ XX d 170 37 [v0, v1, v2, v3, v4, v5, v6, v7] (.int (w 8) :: st) A Q := c_stk i_170_35 rfl
theorem q_170_37 : XX d 170 37 [v0, v1, v2, v3, v4, v5, v6, v7] (.int y :: .int x :: st) A Q ↔ if y < x then XX d 170 40 [v0, v1, v2, v3, v4, v5, v6, v7] st A Q else XX d 170 49 [v0, v1, v2, v3, v4, v5, v6, v7] st A Q := b_le i_170_37 rfl rfl rfl
theorem q_170_40 : XX d 170 40 [some (.ref a), v1, v2, v3, v4, v5, v6, v7] st A Q ↔ XX d 170 41 [some (.ref a), v1, v2, v3, v4, v5, v6, v7] (.ref a :: st) A Q := c_lcl i_170_40 rfl rfl
theorem q_170_41 : XX d 170 41 [v0, v1, v2, v3, v4, v5, v6, v7] st A Q ↔ XX d 170 42 [v0, v1, v2, v3, v4, v5, v6, v7] (.int (w 1) :: st) A Q := c_stk i_170_41 rfl
theorem q_170_42 : XX d 170 42 [some (.ref a), v1, v2, v3, v4, v5, v6, v7] st A Q ↔ XX d 170 43 [some (.ref a), v1, v2, v3, v4, v5, v6, v7] (.ref a :: st) A Q := c_lcl i_170_42 rfl rfl
theorem q_170_43 : XX d 170 43 [v0, v1, v2, v3, v4, v5, v6, v7] (.ref a :: st) (mk S I L R G) Q ↔ S a = some (.inr 12) ∧ XX d 170 46 [v0, v1, v2, v3, v4, v5, v6, v7] (.int (I a 4) :: st) (mk S I L R G) Q := r_gf i_170_43 rfl (by decide) rfl
theorem q_170_46 : XX (d + 1) 170 46 [v0, v1, v2, v3, v4, v5, v6, v7] [.int x2, .int x1, .ref a0] (mk S I L R G) Q ↔ S a0 = some (.inr 12) ∧ XC d 161 [.ref a0, .int x1, .int x2] (mk S I L R G) (XK (d + 1) 170 46 [v0, v1, v2, v3, v4, v5, v6, v7] [] Q) := c_callV i_170_46 rfl rfl rfl rfl (Nat.le_of_ble_eq_true rfl) (Nat.le_of_ble_eq_true rfl) rfl
theorem q_170_49 : XX d 170 49 [v0, v1, v2, v3, v4, some (.int x), v6, v7] st A Q ↔ XX d 170 51 [v0, v1, v2, v3, v4, some (.int x), v6, v7] (.int x :: st) A Q := c_lcl i_170_49 rfl rfl
theorem q_170_51 : XX d 170 51 [v0, v1, v2, v3, v4, v5, v6, v7] st A Q ↔ XX d 170 53 [v0, v1, v2, v3, v4, v5, v6, v7] (.int (w 6) :: st) A Q := c_stk i_170_51 rfl
theorem q_170_53 : XX d 170 53 [v0, v1, v2, v3, v4, v5, v6, v7] (.int y :: .int x :: st) A Q ↔ if x = y then XX d 170 56 [v0, v1, v2, v3, v4, v5, v6, v7] st A Q else XX d 170 83 [v0, v1, v2, v3, v4, v5, v6, v7] st A Q := b_ne i_170_53 rfl rfl rfl
theorem q_170_56 : XX d 170 56 [v0, v1, some (.int x), v3, v4, v5, v6, v7] st A Q ↔ XX d 170 57 [v0, v1, some (.int x), v3, v4, v5, v6, v7] (.int x :: st) A Q := c_lcl i_170_56 rfl rfl
theorem q_170_57 : XX d 170 57 [v0, v1, v2, v3, v4, v5, v6, v7] (.int x :: st) A Q ↔ if x = w 0 then XX d 170 74 [v0, v1, v2, v3, v4, v5, v6, v7] st A Q else XX d 170 60 [v0, v1, v2, v3, v4, v5, v6, v7] st A Q := z_eq i_170_57 rfl rfl rfl
theorem q_170_60 : XX d 170 60 [v0, some (.ref a), v2, v3, v4, v5, v6, v7] st A Q ↔ XX d 170 61 [v0, some (.ref a), v2, v3, v4, v5, v6, v7] (.ref a :: st) A Q := c_lcl i_170_60 rfl rfl
theorem q_170_61 : XX d 170 61 [v0, v1, v2, v3, v4, v5, v6, v7] st A Q ↔ XX d 170 62 [v0, v1, v2, v3, v4, v5, v6, v7] (.int (w 5) :: st) A Q := c_stk i_170_61 rfl
theorem q_170_62 : XX d 170 62 [v0, v1, v2, v3, v4, v5, v6, v7] st A Q ↔ XX d 170 63 [v0, v1, v2, v3, v4, v5, v6, v7] (.int (w 2) :: st) A Q := c_stk i_170_62 rfl
theorem q_170_63 : XX d 170 63 [v0, v1, some (.int x), v3, v4, v5, v6, v7] st A Q ↔ XX d 170 64 [v0, v1, some (.int x), v3, v4, v5, v6, v7] (.int x :: st) A Q := c_lcl i_170_63 rfl rfl
theorem q_170_64 : XX d 170 64 [v0, v1, v2, v3, v4, v5, v6, v7] (.int y :: .int x :: st) A Q ↔ XX d 170 65 [v0, v1, v2, v3, v4, v5, v6, v7] (.int (x * y) :: st) A Q := c_stk i_170_64 rfl
theorem q_170_65 : XX d 170 65 [v0, v1, v2, v3, v4, v5, v6, v7] (.int y :: .int x :: st) A Q ↔ XX d 170 66 [v0, v1, v2, v3, v4, v5, v6, v7] (.int (x + y) :: st) A Q := c_stk i_170_65 rfl
theorem q_170_66 : XX d 170 66 [v0, v1, v2, v3, v4, v5, v6, v7] st A Q ↔ XX d 170 67 [v0, v1, v2, v3, v4, v5, v6, v7] (.int (w 2) :: st) A Q := c_stk i_170_66 rfl
theorem q_170_67 : XX d 170 67 [v0, v1, v2, v3, v4, v5, v6, v7] (.int y :: .int x :: st) A Q ↔ XX d 170 68 [v0, v1, v2, v3, v4, v5, v6, v7] (.int (x - y) :: st) A Q := c_stk i_170_67 rfl
theorem q_170_68 : XX d 170 68 [v0, v1, v2, v3, v4, v5, v6, v7] (.int x :: .ref a :: st) (mk S I L R G) Q ↔ inA (S a) ok_i x ∧ XX d 170 69 [v0, v1, v2, v3, v4, v5, v6, v7] (.int (I a (ix x)) :: st) (mk S I L R G) Q := r_ia i_170_68
theorem q_170_69 : XX d 170 69 [v0, v1, v2, v3, v4, v5, v6, v7] st A Q ↔ XX d 170 71 [v0, v1, v2, v3, v4, v5, v6, v7] (.int (w 6) :: st) A Q := c_stk i_170_69 rfl
theorem q_170_71 : XX d 170 71 [v0, v1, v2, v3, v4, v5, v6, v7] (.int y :: .int x :: st) A Q ↔ if x = y then XX d 170 74 [v0, v1, v2, v3, v4, v5, v6, v7] st A Q else XX d 170 83 [v0, v1, v2, v3, v4, v5, v6, v7] st A Q := b_ne i_170_71 rfl rfl rfl
theorem q_170_74 : XX d 170 74 [some (.ref a), v1, v2, v3, v4, v5, v6, v7] st A Q ↔ XX d 170 75 [some (.ref a), v1, v2, v3, v4, v5, v6, v7] (.ref a :: st) A Q := c_lcl i_170_74 rfl rfl
theorem q_170_75 : XX d 170 75 [v0, v1, v2, v3, v4, v5, v6, v7] st A Q ↔ XX d 170 76 [v0, v1, v2, v3, v4, v5, v6, v7] (.int (w 4) :: st) A Q := c_stk i_170_75 rfl
theorem q_170_76 : XX d 170 76 [some (.ref a), v1, v2, v3, v4, v5, v6, v7] st A Q ↔ XX d 170 77 [some (.ref a), v1, v2, v3, v4, v5, v6, v7] (.ref a :: st) A Q := c_lcl i_170_76 rfl rfl
theorem q_170_77 : XX d 170 77 [v0, v1, v2, v3, v4, v5, v6, v7] (.ref a :: st) (mk S I L R G) Q ↔ S a = some (.inr 12) ∧ XX d 170 80 [v0, v1, v2, v3, v4, v5, v6, v7] (.int (I a 4) :: st) (mk S I L R G) Q := r_gf i_170_77 rfl (by decide) rfl
theorem q_170_80 : XX (d + 1) 170 80 [v0, v1, v2, v3, v4, v5, v6, v7] [.int x2, .int x1, .ref a0] (mk S I L R G) Q ↔ S a0 = some (.inr 12) ∧ XC d 161 [.ref a0, .int x1, .int x2] (mk S I L R G) (XK (d + 1) 170 80 [v0, v1, v2, v3, v4, v5, v6, v7] [] Q) := c_callV i_170_80 rfl rfl rfl rfl (Nat.le_of_ble_eq_true rfl) (Nat.le_of_ble_eq_true rfl) rfl
theorem q_170_83 : XX d 170 83 [some (.ref a), v1, v2, v3, v4, v5, v6, v7] st A Q ↔ XX d 170 84 [some (.ref a), v1, v2, v3, v4, v5, v6, v7] (.ref a :: st) A Q := c_lcl i_170_83 rfl rfl
theorem q_170_84 : XX (d + 1) 170 84 [v0, v1, v2, v3, v4, v5, v6, v7] [.ref a0] (mk S I L R G) Q ↔ S a0 = some (.inr 12) ∧ XC d 160 [.ref a0] (mk S I L R G) (XK (d + 1) 170 84 [v0, v1, v2, v3, v4, v5, v6, v7] [] Q) := c_callV i_170_84 rfl rfl rfl rfl (Nat.le_of_ble_eq_true rfl) (Nat.le_of_ble_eq_true rfl) rfl
theorem q_170_87 : XX d 170 87 [v0, v1, v2, v3, v4, v5, v6, v7] (.int x :: st) A Q ↔ if x = w 0 then XX d 170 90 [v0, v1, v2, v3, v4, v5, v6, v7] st A Q else XX d 170 91 [v0, v1, v2, v3, v4, v5, v6, v7] st A Q := z_ne i_170_87 rfl rfl rfl
theorem q_170_90 : XX d 170 90 [v0, v1, v2, v3, v4, v5, v6, v7] [] A Q ↔ Q (.inl none) A := e_retN i_170_90 rfl
theorem q_170_91 : XX d 170 91 [v0, some (.ref a), v2, v3, v4, v5, v6, v7] st A Q ↔ XX d 170 92 [v0, some (.ref a), v2, v3, v4, v5, v6, v7] (.ref a :: st) A Q := c_lcl i_170_91 rfl rfl
theorem q_170_92 : XX d 170 92 [v0, v1, v2, v3, v4, v5, v6, v7] st A Q ↔ XX d 170 93 [v0, v1, v2, v3, v4, v5, v6, v7] (.int (w 5) :: st) A Q := c_stk i_170_92 rfl
theorem q_170_93 : XX d 170 93 [v0, v1, v2, v3, v4, v5, v6, v7] st A Q ↔ XX d 170 94 [v0, v1, v2, v3, v4, v5, v6, v7] (.int (w 2) :: st) A Q := c_stk i_170_93 rfl
theorem q_170_94 : XX d 170 94 [v0, v1, some (.int x), v3, v4, v5, v6, v7] st A Q ↔ XX d 170 95 [v0, v1, some (.int x), v3, v4, v5, v6, v7] (.int x :: st) A Q := c_lcl i_170_94 rfl rfl
theorem q_170_95 : XX d 170 95 [v0, v1, v2, v3, v4, v5, v6, v7] (.int y :: .int x :: st) A Q ↔ XX d 170 96 [v0, v1, v2, v3, v4, v5, v6, v7] (.int (x * y) :: st) A Q := c_stk i_170_95 rfl
theorem q_170_96 : XX d 170 96 [v0, v1, v2, v3, v4, v5, v6, v7] (.int y :: .int x :: st) A Q ↔ XX d 170 97 [v0, v1, v2, v3, v4, v5, v6, v7] (.int (x + y) :: st) A Q := c_stk i_170_96 rfl
theorem q_170_97 : XX d 170 97 [v0, v1, v2, v3, v4, some (.int x), v6, v7] st A Q ↔ XX d 170 99 [v0, v1, v2, v3, v4, some (.int x), v6, v7] (.int x :: st) A Q := c_lcl i_170_97 rfl rfl
theorem q_170_99 : XX d 170 99 [v0, v1, v2, v3, v4, v5, v6, v7] (.int y :: .int x :: .ref a :: st) (mk S I L R G) Q ↔ inA (S a) ok_0 x ∧ XX d 170 100 [v0, v1, v2, v3, v4, v5, v6, v7] st (mk S (wr I a (up (I a) (ix x) y)) L R G) Q := r_ias i_170_99
theorem q_170_100 : XX d 170 100 [v0, some (.ref a), v2, v3, v4, v5, v6, v7] st A Q ↔ XX d 170 101 [v0, some (.ref a), v2, v3, v4, v5, v6, v7] (.ref a :: st) A Q := c_lcl i_170_100 rfl rfl
theorem q_170_101 : XX d 170 101 [v0, v1, v2, v3, v4, v5, v6, v7] st A Q ↔ XX d 170 102 [v0, v1, v2, v3, v4, v5, v6, v7] (.int (w 5) :: st) A Q := c_stk i_170_101 rfl
theorem q_170_102 : XX d 170 102 [v0, v1, v2, v3, v4, v5, v6, v7] st A Q ↔ XX d 170 103 [v0, v1, v2, v3, v4, v5, v6, v7] (.int (w 2) :: st) A Q := c_stk i_170_102 rfl
theorem q_170_103 : XX d 170 103 [v0, v1, some (.int x), v3, v4, v5, v6, v7] st A Q ↔ XX d 170 104 [v0, v1, some (.int x), v3, v4, v5, v6, v7] (.int x :: st) A Q := c_lcl i_170_103 rfl rfl
theorem q_170_104 : XX d 170 104 [v0, v1, v2, v3, v4, v5, v6, v7] (.int y :: .int x :: st) A Q ↔ XX d 170 105 [v0, v1, v2, v3, v4, v5, v6, v7] (.int (x * y) :: st) A Q := c_stk i_170_104 rfl
theorem q_170_105 : XX d 170 105 [v0, v1, v2, v3, v4, v5, v6, v7] (.int y :: .int x :: st) A Q ↔ XX d 170 106 [v0, v1, v2, v3, v4, v5, v6, v7] (.int (x + y) :: st) A Q := c_stk i_170_105 rfl
theorem q_170_106 : XX d 170 106 [v0, v1, v2, v3, v4, v5, v6, v7] st A Q ↔ XX d 170 107 [v0, v1, v2, v3, v4, v5, v6, v7] (.int (w 1) :: st) A Q := c_stk i_170_106 rfl
theorem q_170_107 : XX d 170 107 [v0, v1, v2, v3, v4, v5, v6, v7] (.int y :: .int x :: st) A Q ↔ XX d 170 108 [v0, v1, v2, v3, v4, v5, v6, v7] (.int (x + y) :: st) A Q := c_stk i_170_107 rfl
theorem q_170_108 : XX d 170 108 [v0, v1, v2, v3, v4, some (.int x), v6, v7] st A Q ↔ XX d 170 110 [v0, v1, v2, v3, v4, some (.int x), v6, v7] (.int x :: st) A Q := c_lcl i_170_108 rfl rfl
theorem q_170_110 : XX d 170 110 [v0, v1, v2, v3, v4, v5, v6, v7] (.int x :: st) A Q ↔ if x = w 0 then XX d 170 113 [v0, v1, v2, v3, v4, v5, v6, v7] st A Q else XX d 170 118 [v0, v1, v2, v3, v4, v5, v6, v7] st A Q := z_ne i_170_110 rfl rfl rfl
theorem q_170_113 : XX d 170 113 [v0, v1, v2, v3, v4, v5, some (.int x), v7] st A Q ↔ XX d 170 115 [v0, v1, v2, v3, v4, v5, some (.int x), v7] (.int x :: st) A Q := c_lcl i_170_113 rfl rfl
theorem q_170_115 : XX d 170 115 [v0, v1, v2, v3, v4, v5, v6, v7] st A Q ↔ XX d 170 119 [v0, v1, v2, v3, v4, v5, v6, v7] st A Q := c_go i_170_115 rfl rfl
theorem q_170_118 : XX d 170 118 [v0, v1, v2, v3, v4, v5, v6, v7] st A Q ↔ XX d 170 119 [v0, v1, v2, v3, v4, v5, v6, v7] (.int (w 0) :: st) A Q := c_stk i_170_118 rfl
theorem q_170_119 : XX d 170 119 [v0, v1, v2, v3, v4, v5, v6, v7] (.int y :: .int x :: .ref a :: st) (mk S I L R G) Q ↔ inA (S a) ok_0 x ∧ XX d 170 120 [v0, v1, v2, v3, v4, v5, v6, v7] st (mk S (wr I a (up (I a) (ix x) y)) L R G) Q := r_ias i_170_119
theorem q_170_120 : XX d 170 120 [v0, v1, v2, v3, v4, v5, v6, v7] st A Q ↔ XX d 170 121 [v0, v1, v2, v3, v4, v5, v6, v7] (.int (w 0) :: st) A Q := c_stk i_170_120 rfl
theorem q_170_121 : XX d 170 121 [v0, v1, v2, v3, v4, v5, some (.int z), v7] (.int x :: st) A Q ↔ XX d 170 123 [v0, v1, v2, v3, v4, v5, some (.int z), some (.int x)] st A Q := c_lcl i_170_121 rfl rfl
theorem q_170_123 : XX d 170 123 [v0, v1, v2, v3, v4, v5, v6, some (.int x)] st A Q ↔ XX d 170 125 [v0, v1, v2, v3, v4, v5, v6, some (.int x)] (.int x :: st) A Q := c_lcl i_170_123 rfl rfl
theorem q_170_125 : XX d 170 125 [v0, v1, v2, v3, v4, v5, some (.int x), v7] st A Q ↔ XX d 170 127 [v0, v1, v2, v3, v4, v5, some (.int x), v7] (.int x :: st) A Q := c_lcl i_170_125 rfl rfl
theorem q_170_127 : XX d 170 127 [v0, v1, v2, v3, v4, v5, v6, v7] (.int y :: .int x :: st) A Q ↔ if x < y then XX d 170 130 [v0, v1, v2, v3, v4, v5, v6, v7] st A Q else XX d 170 157 [v0, v1, v2, v3, v4, v5, v6, v7] st A Q := b_ge i_170_127 rfl rfl rfl
theorem q_170_130 : XX d 170 130 [v0, v1, v2, v3, v4, some (.int x), v6, v7] st A Q ↔ XX d 170 132 [v0, v1, v2, v3, v4, some (.int x), v6, v7] (.int x :: st) A Q := c_lcl i_170_130 rfl rfl
theorem q_170_132 : XX d 170 132 [v0, v1, v2, v3, v4, v5, v6, v7] (.int x :: st) A Q ↔ if x = w 0 then XX d 170 135 [v0, v1, v2, v3, v4, v5, v6, v7] st A Q else XX d 170 157 [v0, v1, v2, v3, v4, v5, v6, v7] st A Q := z_ne i_170_132 rfl rfl rfl
theorem q_170_135 : XX d 170 135 [v0, v1, v2, some (.ref a), v4, v5, v6, v7] st A Q ↔ XX d 170 136 [v0, v1, v2, some (.ref a), v4, v5, v6, v7] (.ref a :: st) A Q := c_lcl i_170_135 rfl rfl
theorem q_170_136 : XX d 170 136 [v0, v1, v2, v3, v4, v5, v6, some (.int x)] st A Q ↔ XX d 170 138 [v0, v1, v2, v3, v4, v5, v6, some (.int x)] (.int x :: st) A Q := c_lcl i_170_136 rfl rfl
theorem q_170_138 : XX d 170 138 [some (.ref a), v1, v2, v3, v4, v5, v6, v7] st A Q ↔ XX d 170 139 [some (.ref a), v1, v2, v3, v4, v5, v6, v7] (.ref a :: st) A Q := c_lcl i_170_138 rfl rfl
theorem q_170_139 : XX d 170 139 [some (.ref a), v1, v2, v3, v4, v5, v6, v7] st A Q ↔ XX d 170 140 [some (.ref a), v1, v2, v3, v4, v5, v6, v7] (.ref a :: st) A Q := c_lcl i_170_139 rfl rfl
theorem q_170_140 : XX d 170 140 [v0, v1, v2, v3, v4, v5, v6, v7] (.ref a :: st) (mk S I L R G) Q ↔ S a = some (.inr 12) ∧ XX d 170 143 [v0, v1, v2, v3, v4, v5, v6, v7] (.int (I a 4) :: st) (mk S I L R G) Q := r_gf i_170_140 rfl (by decide) rfl
theorem q_170_143 : XX d 170 143 [v0, v1, v2, v3, v4, v5, v6, some (.int x)] st A Q ↔ XX d 170 145 [v0, v1, v2, v3, v4, v5, v6, some (.int x)] (.int x :: st) A Q := c_lcl i_170_143 rfl rfl
theorem q_170_145 : XX d 170 145 [v0, v1, v2, v3, v4, v5, v6, v7] (.int y :: .int x :: st) A Q ↔ XX d 170 146 [v0, v1, v2, v3, v4, v5, v6, v7] (.int (x + y) :: st) A Q := c_stk i_170_145 rfl
theorem q_170_146 : XX (d + 1) 170 146 [v0, v1, v2, v3, v4, v5, v6, v7] [.int x1, .ref a0, .int x2, .ref a3] (mk S I L R G) Q ↔ S a0 = some (.inr 12) ∧ XC d 158 [.ref a0, .int x1] (mk S I L R G) (XK (d + 1) 170 146 [v0, v1, v2, v3, v4, v5, v6, v7] [.int x2, .ref a3] Q) := c_callV i_170_146 rfl rfl rfl rfl (Nat.le_of_ble_eq_true rfl) (Nat.le_of_ble_eq_true rfl) rfl
theorem q_170_149 : XX d 170 149 [v0, v1, v2, v3, v4, v5, v6, v7] (.int x :: st) A Q ↔ XX d 170 150 [v0, v1, v2, v3, v4, v5, v6, v7] (.int x.toInt8.toInt32 :: st) A Q := c_stk i_170_149 rfl
theorem q_170_150 : XX d 170 150 [v0, v1, v2, v3, v4, v5, v6, v7] (.int y :: .int x :: .ref a :: st) (mk S I L R G) Q ↔ bsP (S a) x y (fun y => XX d 170 151 [v0, v1, v2, v3, v4, v5, v6, v7] st (mk S (wr I a (up (I a) (ix x) y)) L R G) Q) := r_bas i_170_150
theorem q_170_151 : XX d 170 151 [v0, v1, v2, v3, v4, v5, some (.int z), some (.int x)] st A Q ↔ XX d 170 154 [v0, v1, v2, v3, v4, v5, some (.int z), some (.int (x + w 1))] st A Q := c_lcl i_170_151 rfl rfl
theorem q_170_154 : XX d 170 154 [v0, v1, v2, v3, v4, v5, v6, v7] st A Q ↔ XX d 170 123 [v0, v1, v2, v3, v4, v5, v6, v7] st A Q := c_go i_170_154 rfl rfl
theorem q_170_157 : XX d 170 157 [some (.ref a), v1, v2, v3, v4, v5, v6, v7] st A Q ↔ XX d 170 158 [some (.ref a), v1, v2, v3, v4, v5, v6, v7] (.ref a :: st) A Q := c_lcl i_170_157 rfl rfl
theorem q_170_158 : XX d 170 158 [v0, v1, v2, v3, v4, v5, v6, v7] (.ref a1 :: st) A Q ↔ XX d 170 159 [v0, v1, v2, v3, v4, v5, v6, v7] (.ref a1 :: .ref a1 :: st) A Q := c_stk i_170_158 rfl
theorem q_170_159 : XX d 170 159 [v0, v1, v2, v3, v4, v5, v6, v7] (.ref a :: st) (mk S I L R G) Q ↔ S a = some (.inr 12) ∧ XX d 170 162 [v0, v1, v2, v3, v4, v5, v6, v7] (.int (I a 4) :: st) (mk S I L R G) Q := r_gf i_170_159 rfl (by decide) rfl
theorem q_170_162 : XX d 170 162 [v0, v1, v2, v3, v4, v5, some (.int x), v7] st A Q ↔ XX d 170 164 [v0, v1, v2, v3, v4, v5, some (.int x), v7] (.int x :: st) A Q := c_lcl i_170_162 rfl rfl
theorem q_170_164 : XX d 170 164 [v0, v1, v2, v3, v4, v5, v6, v7] (.int y :: .int x :: st) A Q ↔ XX d 170 165 [v0, v1, v2, v3, v4, v5, v6, v7] (.int (x + y) :: st) A Q := c_stk i_170_164 rfl
theorem q_170_165 : XX d 170 165 [v0, v1, v2, v3, v4, v5, v6, v7] (.int x :: .ref a :: st) (mk S I L R G) Q ↔ S a = some (.inr 12) ∧ XX d 170 168 [v0, v1, v2, v3, v4, v5, v6, v7] st (mk S (wr I a (up (I a) 4 x)) L R G) Q := r_pf i_170_165 rfl (by decide) rfl rfl rfl
theorem q_170_168 : XX d 170 168 [v0, v1, v2, v3, v4, some (.int x), v6, v7] st A Q ↔ XX d 170 170 [v0, v1, v2, v3, v4, some (.int x), v6, v7] (.int x :: st) A Q := c_lcl i_170_168 rfl rfl
theorem q_170_170 : XX d 170 170 [v0, v1, v2, v3, v4, v5, v6, v7] (.int x :: st) A Q ↔ if x = w 0 then XX d 170 196 [v0, v1, v2, v3, v4, v5, v6, v7] st A Q else XX d 170 173 [v0, v1, v2, v3, v4, v5, v6, v7] st A Q := z_eq i_170_170 rfl rfl rfl
theorem q_170_173 : XX d 170 173 [v0, v1, v2, v3, v4, some (.int x), v6, v7] st A Q ↔ XX d 170 175 [v0, v1, v2, v3, v4, some (.int x), v6, v7] (.int x :: st) A Q := c_lcl i_170_173 rfl rfl
theorem q_170_175 : XX d 170 175 [v0, v1, v2, v3, v4, v5, v6, v7] st A Q ↔ XX d 170 177 [v0, v1, v2, v3, v4, v5, v6, v7] (.int (w 6) :: st) A Q := c_stk i_170_175 rfl
theorem q_170_177 : XX d 170 177 [v0, v1, v2, v3, v4, v5, v6, v7] (.int y :: .int x :: st) A Q ↔ if x = y then XX d 170 196 [v0, v1, v2, v3, v4, v5, v6, v7] st A Q else XX d 170 180 [v0, v1, v2, v3, v4, v5, v6, v7] st A Q := b_eq i_170_177 rfl rfl rfl
theorem q_170_180 : XX d 170 180 [v0, some (.ref a), v2, v3, v4, v5, v6, v7] st A Q ↔ XX d 170 181 [v0, some (.ref a), v2, v3, v4, v5, v6, v7] (.ref a :: st) A Q := c_lcl i_170_180 rfl rfl
theorem q_170_181 : XX d 170 181 [v0, v1, v2, v3, v4, v5, v6, v7] st A Q ↔ XX d 170 182 [v0, v1, v2, v3, v4, v5, v6, v7] (.int (w 5) :: st) A Q := c_stk i_170_181 rfl
theorem q_170_182 : XX d 170 182 [v0, v1, v2, v3, v4, v5, v6, v7] st A Q ↔ XX d 170 183 [v0, v1, v2, v3, v4, v5, v6, v7] (.int (w 2) :: st) A Q := c_stk i_170_182 rfl
theorem q_170_183 : XX d 170 183 [v0, v1, some (.int x), v3, v4, v5, v6, v7] st A Q ↔ XX d 170 184 [v0, v1, some (.int x), v3, v4, v5, v6, v7] (.int x :: st) A Q := c_lcl i_170_183 rfl rfl
theorem q_170_184 : XX d 170 184 [v0, v1, v2, v3, v4, v5, v6, v7] (.int y :: .int x :: st) A Q ↔ XX d 170 185 [v0, v1, v2, v3, v4, v5, v6, v7] (.int (x * y) :: st) A Q := c_stk i_170_184 rfl
theorem q_170_185 : XX d 170 185 [v0, v1, v2, v3, v4, v5, v6, v7] (.int y :: .int x :: st) A Q ↔ XX d 170 186 [v0, v1, v2, v3, v4, v5, v6, v7] (.int (x + y) :: st) A Q := c_stk i_170_185 rfl
theorem q_170_186 : XX d 170 186 [v0, v1, v2, v3, v4, v5, v6, v7] st A Q ↔ XX d 170 187 [v0, v1, v2, v3, v4, v5, v6, v7] (.int (w 1) :: st) A Q := c_stk i_170_186 rfl
theorem q_170_187 : XX d 170 187 [v0, v1, v2, v3, v4, v5, v6, v7] (.int y :: .int x :: st) A Q ↔ XX d 170 188 [v0, v1, v2, v3, v4, v5, v6, v7] (.int (x + y) :: st) A Q := c_stk i_170_187 rfl
theorem q_170_188 : XX d 170 188 [some (.ref a), v1, v2, v3, v4, v5, v6, v7] st A Q ↔ XX d 170 189 [some (.ref a), v1, v2, v3, v4, v5, v6, v7] (.ref a :: st) A Q := c_lcl i_170_188 rfl rfl
theorem q_170_189 : XX d 170 189 [v0, v1, v2, v3, v4, v5, v6, v7] st A Q ↔ XX d 170 190 [v0, v1, v2, v3, v4, v5, v6, v7] (.int (w 1) :: st) A Q := c_stk i_170_189 rfl
theorem q_170_190 : XX d 170 190 [v0, v1, v2, v3, v4, v5, v6, v7] st A Q ↔ XX d 170 192 [v0, v1, v2, v3, v4, v5, v6, v7] (.int (w 999999) :: st) A Q := r_ldc i_170_190 rfl
theorem q_170_192 : XX (d + 1) 170 192 [v0, v1, v2, v3, v4, v5, v6, v7] [.int x2, .int x1, .ref a0, .int x3, .ref a4] (mk S I L R G) Q ↔ S a0 = some (.inr 12) ∧ XC d 164 [.ref a0, .int x1, .int x2] (mk S I L R G) (XK (d + 1) 170 192 [v0, v1, v2, v3, v4, v5, v6, v7] [.int x3, .ref a4] Q) := c_callV i_170_192 rfl rfl rfl rfl (Nat.le_of_ble_eq_true rfl) (Nat.le_of_ble_eq_true rfl) rfl
theorem q_170_195 : XX d 170 195 [v0, v1, v2, v3, v4, v5, v6, v7] (.int y :: .int x :: .ref a :: st) (mk S I L R G) Q ↔ inA (S a) ok_0 x ∧ XX d 170 196 [v0, v1, v2, v3, v4, v5, v6, v7] st (mk S (wr I a (up (I a) (ix x) y)) L R G) Q := r_ias i_170_195
theorem q_170_196 : XX d 170 196 [v0, v1, v2, v3, v4, v5, v6, v7] [] A Q ↔ Q (.inl none) A := e_retN i_170_196 rfl
theorem q_170_e : XC d 170 [.ref a0, .ref a1, .int x2, .ref a3] A Q ↔ XX d 170 0 [some (.ref a0), some (.ref a1), some (.int x2), some (.ref a3), none, none, none, none] [] A Q := Iff.rfl
theorem i_171_0 : t_ins 171 0 = some (.iconst 0) := by decide +kernel
theorem i_171_1 : t_ins 171 1 = some (.istore_n 3) := by decide +kernel
theorem i_171_2 : t_ins 171 2 = some (.iconst (-1)) := by decide +kernel
theorem i_171_3 : t_ins 171 3 = some (.istore 4) := by decide +kernel
theorem i_171_5 : t_ins 171 5 = some (.aload_n 0) := by decide +kernel
theorem i_171_6 : t_ins 171 6 = some (.invokevirtual 143) := by decide +kernel
theorem i_171_9 : t_ins 171 9 = some (.ifCond .eq 71) := by decide +kernel
theorem i_171_12 : t_ins 171 12 = some (.aload_n 0) := by decide +kernel
theorem i_171_13 : t_ins 171 13 = some (.invokevirtual 147) := by decide +kernel
theorem i_171_16 : t_ins 171 16 = some (.invokestatic 183) := by decide +kernel
theorem i_171_19 : t_ins 171 19 = some (.iconst (-1)) := by decide +kernel
theorem i_171_20 : t_ins 171 20 = some (.if_icmp .eq 60) := by decide +kernel
theorem i_171_23 : t_ins 171 23 = some (.iload_n 3) := by decide +kernel
theorem i_171_24 : t_ins 171 24 = some (.bipush 6) := by decide +kernel
theorem i_171_26 : t_ins 171 26 = some (.if_icmp .ne 12) := by decide +kernel
theorem i_171_29 : t_ins 171 29 = some (.aload_n 0) := by decide +kernel
theorem i_171_30 : t_ins 171 30 = some (.iconst 3) := by decide +kernel
theorem i_171_31 : t_ins 171 31 = some (.aload_n 0) := by decide +kernel
theorem i_171_32 : t_ins 171 32 = some (.getfield 130) := by decide +kernel
theorem i_171_35 : t_ins 171 35 = some (.invokevirtual 155) := by decide +kernel
theorem i_171_38 : t_ins 171 38 = some (.aload_n 0) := by decide +kernel
theorem i_171_39 : t_ins 171 39 = some (.invokevirtual 143) := by decide +kernel
theorem i_171_42 : t_ins 171 42 = some (.ifCond .ne 4) := by decide +kernel
theorem i_171_45 : t_ins 171 45 = some (.return_) := by decide +kernel
theorem i_171_46 : t_ins 171 46 = some (.aload_n 0) := by decide +kernel
theorem i_171_47 : t_ins 171 47 = some (.invokevirtual 147) := by decide +kernel
theorem i_171_50 : t_ins 171 50 = some (.bipush 126) := by decide +kernel
theorem i_171_52 : t_ins 171 52 = some (.if_icmp .ne 10) := by decide +kernel
theorem i_171_55 : t_ins 171 55 = some (.aload_n 0) := by decide +kernel
theorem i_171_56 : t_ins 171 56 = some (.getfield 130) := by decide +kernel
theorem i_171_59 : t_ins 171 59 = some (.goto 4) := by decide +kernel
theorem i_171_62 : t_ins 171 62 = some (.iconst (-1)) := by decide +kernel
theorem i_171_63 : t_ins 171 63 = some (.istore 4) := by decide +kernel
theorem i_171_65 : t_ins 171 65 = some (.aload_n 0) := by decide +kernel
theorem i_171_66 : t_ins 171 66 = some (.aload_n 1) := by decide +kernel
theorem i_171_67 : t_ins 171 67 = some (.iload_n 3) := by decide +kernel
theorem i_171_68 : t_ins 171 68 = some (.aload_n 2) := by decide +kernel
theorem i_171_69 : t_ins 171 69 = some (.iload_n 3) := by decide +kernel
theorem i_171_70 : t_ins 171 70 = some (.aaload) := by decide +kernel
theorem i_171_71 : t_ins 171 71 = some (.invokevirtual 191) := by decide +kernel
theorem i_171_74 : t_ins 171 74 = some (.iinc 3 1) := by decide +kernel
theorem i_171_77 : t_ins 171 77 = some (.goto (-72)) := by decide +kernel
theorem i_171_80 : t_ins 171 80 = some (.iload_n 3) := by decide +kernel
theorem i_171_81 : t_ins 171 81 = some (.ifCond .eq 12) := by decide +kernel
theorem i_171_84 : t_ins 171 84 = some (.aload_n 0) := by decide +kernel
theorem i_171_85 : t_ins 171 85 = some (.invokevirtual 147) := by decide +kernel
theorem i_171_88 : t_ins 171 88 = some (.bipush 59) := by decide +kernel
theorem i_171_90 : t_ins 171 90 = some (.if_icmp .eq 12) := by decide +kernel
theorem i_171_93 : t_ins 171 93 = some (.aload_n 0) := by decide +kernel
theorem i_171_94 : t_ins 171 94 = some (.iconst 1) := by decide +kernel
theorem i_171_95 : t_ins 171 95 = some (.aload_n 0) := by decide +kernel
theorem i_171_96 : t_ins 171 96 = some (.getfield 130) := by decide +kernel
theorem i_171_99 : t_ins 171 99 = some (.invokevirtual 155) := by decide +kernel
theorem i_171_102 : t_ins 171 102 = some (.iload 4) := by decide +kernel
theorem i_171_104 : t_ins 171 104 = some (.iconst (-1)) := by decide +kernel
theorem i_171_105 : t_ins 171 105 = some (.if_icmp .eq 10) := by decide +kernel
theorem i_171_108 : t_ins 171 108 = some (.aload_n 0) := by decide +kernel
theorem i_171_109 : t_ins 171 109 = some (.iconst 4) := by decide +kernel
theorem i_171_110 : t_ins 171 110 = some (.iload 4) := by decide +kernel
theorem i_171_112 : t_ins 171 112 = some (.invokevirtual 155) := by decide +kernel
theorem i_171_115 : t_ins 171 115 = some (.aload_n 1) := by decide +kernel
theorem i_171_116 : t_ins 171 116 = some (.iconst 4) := by decide +kernel
theorem i_171_117 : t_ins 171 117 = some (.iload_n 3) := by decide +kernel
theorem i_171_118 : t_ins 171 118 = some (.iastore) := by decide +kernel
theorem i_171_119 : t_ins 171 119 = some (.aload_n 0) := by decide +kernel
theorem i_171_120 : t_ins 171 120 = some (.invokevirtual 195) := by decide +kernel
theorem i_171_123 : t_ins 171 123 = some (.return_) := by decide +kernel
theorem q_171_0 : XX d 171 0 [v0, v1, v2, v3, v4] st A Q ↔ XX d 171 1 [v0, v1, v2, v3, v4] (.int (w 0) :: st) A Q := c_stk i_171_0 rfl
theorem q_171_1 : XX d 171 1 [v0, v1, some (.ref b), v3, v4] (.int x :: st) A Q ↔ XX d 171 2 [v0, v1, some (.ref b), some (.int x), v4] st A Q := c_lcl i_171_1 rfl rfl
theorem q_171_2 : XX d 171 2 [v0, v1, v2, v3, v4] st A Q ↔ XX d 171 3 [v0, v1, v2, v3, v4] (.int (w (-1)) :: st) A Q := c_stk i_171_2 rfl
theorem q_171_3 : XX d 171 3 [v0, v1, v2, some (.int z), v4] (.int x :: st) A Q ↔ XX d 171 5 [v0, v1, v2, some (.int z), some (.int x)] st A Q := c_lcl i_171_3 rfl rfl
theorem q_171_5 : XX d 171 5 [some (.ref a), v1, v2, v3, v4] st A Q ↔ XX d 171 6 [some (.ref a), v1, v2, v3, v4] (.ref a :: st) A Q := c_lcl i_171_5 rfl rfl
theorem q_171_6 : XX (d + 1) 171 6 [v0, v1, v2, v3, v4] [.ref a0] (mk S I L R G) Q ↔ S a0 = some (.inr 12) ∧ XC d 160 [.ref a0] (mk S I L R G) (XK (d + 1) 171 6 [v0, v1, v2, v3, v4] [] Q) := c_callV i_171_6 rfl rfl rfl rfl (Nat.le_of_ble_eq_true rfl) (Nat.le_of_ble_eq_true rfl) rfl
theorem q_171_9 : XX d 171 9 [v0, v1, v2, v3, v4] (.int x :: st) A Q ↔ if x = w 0 then XX d 171 80 [v0, v1, v2, v3, v4] st A Q else XX d 171 12 [v0, v1, v2, v3, v4] st A Q := z_eq i_171_9 rfl rfl rfl
theorem q_171_12 : XX d 171 12 [some (.ref a), v1, v2, v3, v4] st A Q ↔ XX d 171 13 [some (.ref a), v1, v2, v3, v4] (.ref a :: st) A Q := c_lcl i_171_12 rfl rfl
theorem q_171_13 : XX (d + 1) 171 13 [v0, v1, v2, v3, v4] [.ref a0] (mk S I L R G) Q ↔ S a0 = some (.inr 12) ∧ XC d 159 [.ref a0] (mk S I L R G) (XK (d + 1) 171 13 [v0, v1, v2, v3, v4] [] Q) := c_callV i_171_13 rfl rfl rfl rfl (Nat.le_of_ble_eq_true rfl) (Nat.le_of_ble_eq_true rfl) rfl
theorem q_171_16 : XX (d + 1) 171 16 [v0, v1, v2, v3, v4] [.int x0] A Q ↔ XC d 169 [.int x0] A (XK (d + 1) 171 16 [v0, v1, v2, v3, v4] [] Q) := c_callS i_171_16 rfl rfl rfl rfl (Nat.le_of_ble_eq_true rfl) (Nat.le_of_ble_eq_true rfl)
theorem q_171_19 : XX d 171 19 [v0, v1, v2, v3, v4] st A Q ↔ XX d 171 20 [v0, v1, v2, v3, v4] (.int (w (-1)) :: st) A Q := c_stk i_171_19 rfl
theorem q_171_20 : XX d 171 20 [v0, v1, v2, v3, v4] (.int y :: .int x :: st) A Q ↔ if x = y then XX d 171 80 [v0, v1, v2, v3, v4] st A Q else XX d 171 23 [v0, v1, v2, v3, v4] st A Q := b_eq i_171_20 rfl rfl rfl
theorem q_171_23 : XX d 171 23 [v0, v1, v2, some (.int x), v4] st A Q ↔ XX d 171 24 [v0, v1, v2, some (.int x), v4] (.int x :: st) A Q := c_lcl i_171_23 rfl rfl
theorem q_171_24 : XX d 171 24 [v0, v1, v2, v3, v4] st A Q ↔ XX d 171 26 [v0, v1, v2, v3, v4] (.int (w 6) :: st) A Q := c_stk i_171_24 rfl
theorem q_171_26 : XX d 171 26 [v0, v1, v2, v3, v4] (.int y :: .int x :: st) A Q ↔ if x = y then XX d 171 29 [v0, v1, v2, v3, v4] st A Q else XX d 171 38 [v0, v1, v2, v3, v4] st A Q := b_ne i_171_26 rfl rfl rfl
theorem q_171_29 : XX d 171 29 [some (.ref a), v1, v2, v3, v4] st A Q ↔ XX d 171 30 [some (.ref a), v1, v2, v3, v4] (.ref a :: st) A Q := c_lcl i_171_29 rfl rfl
theorem q_171_30 : XX d 171 30 [v0, v1, v2, v3, v4] st A Q ↔ XX d 171 31 [v0, v1, v2, v3, v4] (.int (w 3) :: st) A Q := c_stk i_171_30 rfl
theorem q_171_31 : XX d 171 31 [some (.ref a), v1, v2, v3, v4] st A Q ↔ XX d 171 32 [some (.ref a), v1, v2, v3, v4] (.ref a :: st) A Q := c_lcl i_171_31 rfl rfl
theorem q_171_32 : XX d 171 32 [v0, v1, v2, v3, v4] (.ref a :: st) (mk S I L R G) Q ↔ S a = some (.inr 12) ∧ XX d 171 35 [v0, v1, v2, v3, v4] (.int (I a 4) :: st) (mk S I L R G) Q := r_gf i_171_32 rfl (by decide) rfl
theorem q_171_35 : XX (d + 1) 171 35 [v0, v1, v2, v3, v4] [.int x2, .int x1, .ref a0] (mk S I L R G) Q ↔ S a0 = some (.inr 12) ∧ XC d 161 [.ref a0, .int x1, .int x2] (mk S I L R G) (XK (d + 1) 171 35 [v0, v1, v2, v3, v4] [] Q) := c_callV i_171_35 rfl rfl rfl rfl (Nat.le_of_ble_eq_true rfl) (Nat.le_of_ble_eq_true rfl) rfl
theorem q_171_38 : XX d 171 38 [some (.ref a), v1, v2, v3, v4] st A Q ↔ XX d 171 39 [some (.ref a), v1, v2, v3, v4] (.ref a :: st) A Q := c_lcl i_171_38 rfl rfl
theorem q_171_39 : XX (d + 1) 171 39 [v0, v1, v2, v3, v4] [.ref a0] (mk S I L R G) Q ↔ S a0 = some (.inr 12) ∧ XC d 160 [.ref a0] (mk S I L R G) (XK (d + 1) 171 39 [v0, v1, v2, v3, v4] [] Q) := c_callV i_171_39 rfl rfl rfl rfl (Nat.le_of_ble_eq_true rfl) (Nat.le_of_ble_eq_true rfl) rfl
theorem q_171_42 : XX d 171 42 [v0, v1, v2, v3, v4] (.int x :: st) A Q ↔ if x = w 0 then XX d 171 45 [v0, v1, v2, v3, v4] st A Q else XX d 171 46 [v0, v1, v2, v3, v4] st A Q := z_ne i_171_42 rfl rfl rfl
theorem q_171_45 : XX d 171 45 [v0, v1, v2, v3, v4] [] A Q ↔ Q (.inl none) A := e_retN i_171_45 rfl
theorem q_171_46 : XX d 171 46 [some (.ref a), v1, v2, v3, v4] st A Q ↔ XX d 171 47 [some (.ref a), v1, v2, v3, v4] (.ref a :: st) A Q := c_lcl i_171_46 rfl rfl
theorem q_171_47 : XX (d + 1) 171 47 [v0, v1, v2, v3, v4] [.ref a0] (mk S I L R G) Q ↔ S a0 = some (.inr 12) ∧ XC d 159 [.ref a0] (mk S I L R G) (XK (d + 1) 171 47 [v0, v1, v2, v3, v4] [] Q) := c_callV i_171_47 rfl rfl rfl rfl (Nat.le_of_ble_eq_true rfl) (Nat.le_of_ble_eq_true rfl) rfl
theorem q_171_50 : XX d 171 50 [v0, v1, v2, v3, v4] st A Q ↔ XX d 171 52 [v0, v1, v2, v3, v4] (.int (w 126) :: st) A Q := c_stk i_171_50 rfl
theorem q_171_52 : XX d 171 52 [v0, v1, v2, v3, v4] (.int y :: .int x :: st) A Q ↔ if x = y then XX d 171 55 [v0, v1, v2, v3, v4] st A Q else XX d 171 62 [v0, v1, v2, v3, v4] st A Q := b_ne i_171_52 rfl rfl rfl
theorem q_171_55 : XX d 171 55 [some (.ref a), v1, v2, v3, v4] st A Q ↔ XX d 171 56 [some (.ref a), v1, v2, v3, v4] (.ref a :: st) A Q := c_lcl i_171_55 rfl rfl
theorem q_171_56 : XX d 171 56 [v0, v1, v2, v3, v4] (.ref a :: st) (mk S I L R G) Q ↔ S a = some (.inr 12) ∧ XX d 171 59 [v0, v1, v2, v3, v4] (.int (I a 4) :: st) (mk S I L R G) Q := r_gf i_171_56 rfl (by decide) rfl
theorem q_171_59 : XX d 171 59 [v0, v1, v2, v3, v4] st A Q ↔ XX d 171 63 [v0, v1, v2, v3, v4] st A Q := c_go i_171_59 rfl rfl
theorem q_171_62 : XX d 171 62 [v0, v1, v2, v3, v4] st A Q ↔ XX d 171 63 [v0, v1, v2, v3, v4] (.int (w (-1)) :: st) A Q := c_stk i_171_62 rfl
theorem q_171_63 : XX d 171 63 [v0, v1, v2, some (.int z), v4] (.int x :: st) A Q ↔ XX d 171 65 [v0, v1, v2, some (.int z), some (.int x)] st A Q := c_lcl i_171_63 rfl rfl
theorem q_171_65 : XX d 171 65 [some (.ref a), v1, v2, v3, v4] st A Q ↔ XX d 171 66 [some (.ref a), v1, v2, v3, v4] (.ref a :: st) A Q := c_lcl i_171_65 rfl rfl
theorem q_171_66 : XX d 171 66 [v0, some (.ref a), v2, v3, v4] st A Q ↔ XX d 171 67 [v0, some (.ref a), v2, v3, v4] (.ref a :: st) A Q := c_lcl i_171_66 rfl rfl
theorem q_171_67 : XX d 171 67 [v0, v1, v2, some (.int x), v4] st A Q ↔ XX d 171 68 [v0, v1, v2, some (.int x), v4] (.int x :: st) A Q := c_lcl i_171_67 rfl rfl
theorem q_171_68 : XX d 171 68 [v0, v1, some (.ref a), v3, v4] st A Q ↔ XX d 171 69 [v0, v1, some (.ref a), v3, v4] (.ref a :: st) A Q := c_lcl i_171_68 rfl rfl
theorem q_171_69 : XX d 171 69 [v0, v1, v2, some (.int x), v4] st A Q ↔ XX d 171 70 [v0, v1, v2, some (.int x), v4] (.int x :: st) A Q := c_lcl i_171_69 rfl rfl
theorem q_171_70 : XX d 171 70 [v0, v1, v2, v3, v4] (.int x :: .ref a :: st) (mk S I L R G) Q ↔ inA (S a) ok_q x ∧ XX d 171 71 [v0, v1, v2, v3, v4] (va_rf (R a (ix x)) :: st) (mk S I L R G) Q := r_aq i_171_70
theorem q_171_71 : XX (d + 1) 171 71 [v0, v1, v2, v3, v4] [.ref a3, .int x2, .ref a1, .ref a0] (mk S I L R G) Q ↔ S a0 = some (.inr 12) ∧ XC d 170 [.ref a0, .ref a1, .int x2, .ref a3] (mk S I L R G) (XK (d + 1) 171 71 [v0, v1, v2, v3, v4] [] Q) := c_callV i_171_71 rfl rfl rfl rfl (Nat.le_of_ble_eq_true rfl) (Nat.le_of_ble_eq_true rfl) rfl
theorem q_171_71o : XX (d + 1) 171 71 [v0, v1, v2, v3, v4] [va_rf o3, .int x2, .ref a1, .ref a0] (mk S I L R G) Q ↔ S a0 = some (.inr 12) ∧ XC d 170 [.ref a0, .ref a1, .int x2, va_rf o3] (mk S I L R G) (XK (d + 1) 171 71 [v0, v1, v2, v3, v4] [] Q) := by cases o3 <;> exact c_callV i_171_71 rfl rfl rfl rfl (Nat.le_of_ble_eq_true rfl) (Nat.le_of_ble_eq_true rfl) rfl
theorem q_171_74 : XX d 171 74 [v0, v1, some (.ref b), some (.int x), v4] st A Q ↔ XX d 171 77 [v0, v1, some (.ref b), some (.int (x + w 1)), v4] st A Q := c_lcl i_171_74 rfl rfl
theorem q_171_77 : XX d 171 77 [v0, v1, v2, v3, v4] st A Q ↔ XX d 171 5 [v0, v1, v2, v3, v4] st A Q := c_go i_171_77 rfl rfl
theorem q_171_80 : XX d 171 80 [v0, v1, v2, some (.int x), v4] st A Q ↔ XX d 171 81 [v0, v1, v2, some (.int x), v4] (.int x :: st) A Q := c_lcl i_171_80 rfl rfl
theorem q_171_81 : XX d 171 81 [v0, v1, v2, v3, v4] (.int x :: st) A Q ↔ if x = w 0 then XX d 171 93 [v0, v1, v2, v3, v4] st A Q else XX d 171 84 [v0, v1, v2, v3, v4] st A Q := z_eq i_171_81 rfl rfl rfl
theorem q_171_84 : XX d 171 84 [some (.ref a), v1, v2, v3, v4] st A Q ↔ XX d 171 85 [some (.ref a), v1, v2, v3, v4] (.ref a :: st) A Q := c_lcl i_171_84 rfl rfl
theorem q_171_85 : XX (d + 1) 171 85 [v0, v1, v2, v3, v4] [.ref a0] (mk S I L R G) Q ↔ S a0 = some (.inr 12) ∧ XC d 159 [.ref a0] (mk S I L R G) (XK (d + 1) 171 85 [v0, v1, v2, v3, v4] [] Q) := c_callV i_171_85 rfl rfl rfl rfl (Nat.le_of_ble_eq_true rfl) (Nat.le_of_ble_eq_true rfl) rfl
theorem q_171_88 : XX d 171 88 [v0, v1, v2, v3, v4] st A Q ↔ XX d 171 90 [v0, v1, v2, v3, v4] (.int (w 59) :: st) A Q := c_stk i_171_88 rfl
theorem q_171_90 : XX d 171 90 [v0, v1, v2, v3, v4] (.int y :: .int x :: st) A Q ↔ if x = y then XX d 171 102 [v0, v1, v2, v3, v4] st A Q else XX d 171 93 [v0, v1, v2, v3, v4] st A Q := b_eq i_171_90 rfl rfl rfl
theorem q_171_93 : XX d 171 93 [some (.ref a), v1, v2, v3, v4] st A Q ↔ XX d 171 94 [some (.ref a), v1, v2, v3, v4] (.ref a :: st) A Q := c_lcl i_171_93 rfl rfl
theorem q_171_94 : XX d 171 94 [v0, v1, v2, v3, v4] st A Q ↔ XX d 171 95 [v0, v1, v2, v3, v4] (.int (w 1) :: st) A Q := c_stk i_171_94 rfl
theorem q_171_95 : XX d 171 95 [some (.ref a), v1, v2, v3, v4] st A Q ↔ XX d 171 96 [some (.ref a), v1, v2, v3, v4] (.ref a :: st) A Q := c_lcl i_171_95 rfl rfl
theorem q_171_96 : XX d 171 96 [v0, v1, v2, v3, v4] (.ref a :: st) (mk S I L R G) Q ↔ S a = some (.inr 12) ∧ XX d 171 99 [v0, v1, v2, v3, v4] (.int (I a 4) :: st) (mk S I L R G) Q := r_gf i_171_96 rfl (by decide) rfl
theorem q_171_99 : XX (d + 1) 171 99 [v0, v1, v2, v3, v4] [.int x2, .int x1, .ref a0] (mk S I L R G) Q ↔ S a0 = some (.inr 12) ∧ XC d 161 [.ref a0, .int x1, .int x2] (mk S I L R G) (XK (d + 1) 171 99 [v0, v1, v2, v3, v4] [] Q) := c_callV i_171_99 rfl rfl rfl rfl (Nat.le_of_ble_eq_true rfl) (Nat.le_of_ble_eq_true rfl) rfl
theorem q_171_102 : XX d 171 102 [v0, v1, v2, v3, some (.int x)] st A Q ↔ XX d 171 104 [v0, v1, v2, v3, some (.int x)] (.int x :: st) A Q := c_lcl i_171_102 rfl rfl
theorem q_171_104 : XX d 171 104 [v0, v1, v2, v3, v4] st A Q ↔ XX d 171 105 [v0, v1, v2, v3, v4] (.int (w (-1)) :: st) A Q := c_stk i_171_104 rfl
theorem q_171_105 : XX d 171 105 [v0, v1, v2, v3, v4] (.int y :: .int x :: st) A Q ↔ if x = y then XX d 171 115 [v0, v1, v2, v3, v4] st A Q else XX d 171 108 [v0, v1, v2, v3, v4] st A Q := b_eq i_171_105 rfl rfl rfl
theorem q_171_108 : XX d 171 108 [some (.ref a), v1, v2, v3, v4] st A Q ↔ XX d 171 109 [some (.ref a), v1, v2, v3, v4] (.ref a :: st) A Q := c_lcl i_171_108 rfl rfl
theorem q_171_109 : XX d 171 109 [v0, v1, v2, v3, v4] st A Q ↔ XX d 171 110 [v0, v1, v2, v3, v4] (.int (w 4) :: st) A Q := c_stk i_171_109 rfl
theorem q_171_110 : XX d 171 110 [v0, v1, v2, v3, some (.int x)] st A Q ↔ XX d 171 112 [v0, v1, v2, v3, some (.int x)] (.int x :: st) A Q := c_lcl i_171_110 rfl rfl
theorem q_171_112 : XX (d + 1) 171 112 [v0, v1, v2, v3, v4] [.int x2, .int x1, .ref a0] (mk S I L R G) Q ↔ S a0 = some (.inr 12) ∧ XC d 161 [.ref a0, .int x1, .int x2] (mk S I L R G) (XK (d + 1) 171 112 [v0, v1, v2, v3, v4] [] Q) := c_callV i_171_112 rfl rfl rfl rfl (Nat.le_of_ble_eq_true rfl) (Nat.le_of_ble_eq_true rfl) rfl
theorem q_171_115 : XX d 171 115 [v0, some (.ref a), v2, v3, v4] st A Q ↔ XX d 171 116 [v0, some (.ref a), v2, v3, v4] (.ref a :: st) A Q := c_lcl i_171_115 rfl rfl
theorem q_171_116 : XX d 171 116 [v0, v1, v2, v3, v4] st A Q ↔ XX d 171 117 [v0, v1, v2, v3, v4] (.int (w 4) :: st) A Q := c_stk i_171_116 rfl
theorem q_171_117 : XX d 171 117 [v0, v1, v2, some (.int x), v4] st A Q ↔ XX d 171 118 [v0, v1, v2, some (.int x), v4] (.int x :: st) A Q := c_lcl i_171_117 rfl rfl
theorem q_171_118 : XX d 171 118 [v0, v1, v2, v3, v4] (.int y :: .int x :: .ref a :: st) (mk S I L R G) Q ↔ inA (S a) ok_0 x ∧ XX d 171 119 [v0, v1, v2, v3, v4] st (mk S (wr I a (up (I a) (ix x) y)) L R G) Q := r_ias i_171_118
theorem q_171_119 : XX d 171 119 [some (.ref a), v1, v2, v3, v4] st A Q ↔ XX d 171 120 [some (.ref a), v1, v2, v3, v4] (.ref a :: st) A Q := c_lcl i_171_119 rfl rfl
theorem q_171_120 : XX (d + 1) 171 120 [v0, v1, v2, v3, v4] [.ref a0] (mk S I L R G) Q ↔ S a0 = some (.inr 12) ∧ XC d 168 [.ref a0] (mk S I L R G) (XK (d + 1) 171 120 [v0, v1, v2, v3, v4] [] Q) := c_callV i_171_120 rfl rfl rfl rfl (Nat.le_of_ble_eq_true rfl) (Nat.le_of_ble_eq_true rfl) rfl
theorem q_171_123 : XX d 171 123 [v0, v1, v2, v3, v4] [] A Q ↔ Q (.inl none) A := e_retN i_171_123 rfl
theorem q_171_e : XC d 171 [.ref a0, .ref a1, .ref a2] A Q ↔ XX d 171 0 [some (.ref a0), some (.ref a1), some (.ref a2), none, none] [] A Q := Iff.rfl
theorem i_172_0 : t_ins 172 0 = some (.aload_n 0) := by decide +kernel
theorem i_172_1 : t_ins 172 1 = some (.invokevirtual 147) := by decide +kernel
theorem i_172_4 : t_ins 172 4 = some (.pop) := by decide +kernel
theorem i_172_5 : t_ins 172 5 = some (.aload_n 0) := by decide +kernel
theorem i_172_6 : t_ins 172 6 = some (.getfield 130) := by decide +kernel
theorem i_172_9 : t_ins 172 9 = some (.istore_n 1) := by decide +kernel
theorem i_172_10 : t_ins 172 10 = some (.aload_n 0) := by decide +kernel
theorem i_172_11 : t_ins 172 11 = some (.ldc 198) := by decide +kernel
theorem i_172_13 : t_ins 172 13 = some (.invokevirtual 179) := by decide +kernel
theorem i_172_16 : t_ins 172 16 = some (.ifCond .ne 9) := by decide +kernel
theorem i_172_19 : t_ins 172 19 = some (.aload_n 0) := by decide +kernel
theorem i_172_20 : t_ins 172 20 = some (.iconst 1) := by decide +kernel
theorem i_172_21 : t_ins 172 21 = some (.iload_n 1) := by decide +kernel
theorem i_172_22 : t_ins 172 22 = some (.invokevirtual 155) := by decide +kernel
theorem i_172_25 : t_ins 172 25 = some (.aload_n 0) := by decide +kernel
theorem i_172_26 : t_ins 172 26 = some (.invokevirtual 143) := by decide +kernel
theorem i_172_29 : t_ins 172 29 = some (.ifCond .eq 20) := by decide +kernel
theorem i_172_32 : t_ins 172 32 = some (.aload_n 0) := by decide +kernel
theorem i_172_33 : t_ins 172 33 = some (.getfield 20) := by decide +kernel
theorem i_172_36 : t_ins 172 36 = some (.iconst 2) := by decide +kernel
theorem i_172_37 : t_ins 172 37 = some (.iaload) := by decide +kernel
theorem i_172_38 : t_ins 172 38 = some (.bipush 30) := by decide +kernel
theorem i_172_40 : t_ins 172 40 = some (.if_icmp .ne 9) := by decide +kernel
theorem i_172_43 : t_ins 172 43 = some (.aload_n 0) := by decide +kernel
theorem i_172_44 : t_ins 172 44 = some (.iconst 3) := by decide +kernel
theorem i_172_45 : t_ins 172 45 = some (.iload_n 1) := by decide +kernel
theorem i_172_46 : t_ins 172 46 = some (.invokevirtual 155) := by decide +kernel
theorem i_172_49 : t_ins 172 49 = some (.aload_n 0) := by decide +kernel
theorem i_172_50 : t_ins 172 50 = some (.invokevirtual 143) := by decide +kernel
theorem i_172_53 : t_ins 172 53 = some (.ifCond .ne 4) := by decide +kernel
theorem i_172_56 : t_ins 172 56 = some (.return_) := by decide +kernel
theorem i_172_57 : t_ins 172 57 = some (.aload_n 0) := by decide +kernel
theorem i_172_58 : t_ins 172 58 = some (.getfield 28) := by decide +kernel
theorem i_172_61 : t_ins 172 61 = some (.iconst 2) := by decide +kernel
theorem i_172_62 : t_ins 172 62 = some (.aaload) := by decide +kernel
theorem i_172_63 : t_ins 172 63 = some (.aload_n 0) := by decide +kernel
theorem i_172_64 : t_ins 172 64 = some (.getfield 20) := by decide +kernel
theorem i_172_67 : t_ins 172 67 = some (.iconst 2) := by decide +kernel
theorem i_172_68 : t_ins 172 68 = some (.iaload) := by decide +kernel
theorem i_172_69 : t_ins 172 69 = some (.aaload) := by decide +kernel
theorem i_172_70 : t_ins 172 70 = some (.astore_n 2) := by decide +kernel
theorem i_172_71 : t_ins 172 71 = some (.aload_n 2) := by decide +kernel
theorem i_172_72 : t_ins 172 72 = some (.iconst 0) := by decide +kernel
theorem i_172_73 : t_ins 172 73 = some (.aload_n 0) := by decide +kernel
theorem i_172_74 : t_ins 172 74 = some (.iconst 0) := by decide +kernel
theorem i_172_75 : t_ins 172 75 = some (.ldc 200) := by decide +kernel
theorem i_172_77 : t_ins 172 77 = some (.invokevirtual 187) := by decide +kernel
theorem i_172_80 : t_ins 172 80 = some (.iastore) := by decide +kernel
theorem i_172_81 : t_ins 172 81 = some (.aload_n 2) := by decide +kernel
theorem i_172_82 : t_ins 172 82 = some (.iconst 1) := by decide +kernel
theorem i_172_83 : t_ins 172 83 = some (.aload_n 0) := by decide +kernel
theorem i_172_84 : t_ins 172 84 = some (.ldc 201) := by decide +kernel
theorem i_172_86 : t_ins 172 86 = some (.invokevirtual 179) := by decide +kernel
theorem i_172_89 : t_ins 172 89 = some (.ifCond .eq 15) := by decide +kernel
theorem i_172_92 : t_ins 172 92 = some (.aload_n 0) := by decide +kernel
theorem i_172_93 : t_ins 172 93 = some (.aload_n 2) := by decide +kernel
theorem i_172_94 : t_ins 172 94 = some (.iconst 0) := by decide +kernel
theorem i_172_95 : t_ins 172 95 = some (.iaload) := by decide +kernel
theorem i_172_96 : t_ins 172 96 = some (.ldc 200) := by decide +kernel
theorem i_172_98 : t_ins 172 98 = some (.invokevirtual 187) := by decide +kernel
theorem i_172_101 : t_ins 172 101 = some (.goto 6) := by decide +kernel
theorem i_172_104 : t_ins 172 104 = some (.aload_n 2) := by decide +kernel
theorem i_172_105 : t_ins 172 105 = some (.iconst 0) := by decide +kernel
theorem i_172_106 : t_ins 172 106 = some (.iaload) := by decide +kernel
theorem i_172_107 : t_ins 172 107 = some (.iastore) := by decide +kernel
theorem i_172_108 : t_ins 172 108 = some (.aload_n 2) := by decide +kernel
theorem i_172_109 : t_ins 172 109 = some (.iconst 2) := by decide +kernel
theorem i_172_110 : t_ins 172 110 = some (.iconst 1) := by decide +kernel
theorem i_172_111 : t_ins 172 111 = some (.iastore) := by decide +kernel
theorem i_172_112 : t_ins 172 112 = some (.aload_n 2) := by decide +kernel
theorem i_172_113 : t_ins 172 113 = some (.iconst 3) := by decide +kernel
theorem i_172_114 : t_ins 172 114 = some (.iconst 0) := by decide +kernel
theorem i_172_115 : t_ins 172 115 = some (.iastore) := by decide +kernel
theorem i_172_116 : t_ins 172 116 = some (.aload_n 0) := by decide +kernel
theorem i_172_117 : t_ins 172 117 = some (.ldc 203) := by decide +kernel
theorem i_172_119 : t_ins 172 119 = some (.invokevirtual 179) := by decide +kernel
theorem i_172_122 : t_ins 172 122 = some (.ifCond .eq 27) := by decide +kernel
theorem i_172_125 : t_ins 172 125 = some (.aload_n 2) := by decide +kernel
theorem i_172_126 : t_ins 172 126 = some (.iconst 2) := by decide +kernel
theorem i_172_127 : t_ins 172 127 = some (.aload_n 0) := by decide +kernel
theorem i_172_128 : t_ins 172 128 = some (.iconst 1) := by decide +kernel
theorem i_172_129 : t_ins 172 129 = some (.sipush 9999) := by decide +kernel
theorem i_172_132 : t_ins 172 132 = some (.invokevirtual 187) := by decide +kernel
theorem i_172_135 : t_ins 172 135 = some (.iastore) := by decide +kernel
theorem i_172_136 : t_ins 172 136 = some (.aload_n 2) := by decide +kernel
theorem i_172_137 : t_ins 172 137 = some (.iconst 3) := by decide +kernel
theorem i_172_138 : t_ins 172 138 = some (.aload_n 0) := by decide +kernel
theorem i_172_139 : t_ins 172 139 = some (.iconst 0) := by decide +kernel
theorem i_172_140 : t_ins 172 140 = some (.aload_n 2) := by decide +kernel
theorem i_172_141 : t_ins 172 141 = some (.iconst 2) := by decide +kernel
theorem i_172_142 : t_ins 172 142 = some (.iaload) := by decide +kernel
theorem i_172_143 : t_ins 172 143 = some (.iconst 1) := by decide +kernel
theorem i_172_144 : t_ins 172 144 = some (.isub) := by decide +kernel
theorem i_172_145 : t_ins 172 145 = some (.invokevirtual 187) := by decide +kernel
theorem i_172_148 : t_ins 172 148 = some (.iastore) := by decide +kernel
theorem i_172_149 : t_ins 172 149 = some (.aload_n 0) := by decide +kernel
theorem i_172_150 : t_ins 172 150 = some (.ldc 205) := by decide +kernel
theorem i_172_152 : t_ins 172 152 = some (.invokevirtual 207) := by decide +kernel
theorem i_172_155 : t_ins 172 155 = some (.aload_n 0) := by decide +kernel
theorem i_172_156 : t_ins 172 156 = some (.invokevirtual 143) := by decide +kernel
theorem i_172_159 : t_ins 172 159 = some (.ifCond .eq 21) := by decide +kernel
theorem i_172_162 : t_ins 172 162 = some (.aload_n 0) := by decide +kernel
theorem i_172_163 : t_ins 172 163 = some (.aload_n 2) := by decide +kernel
theorem i_172_164 : t_ins 172 164 = some (.aload_n 0) := by decide +kernel
theorem i_172_165 : t_ins 172 165 = some (.getfield 33) := by decide +kernel
theorem i_172_168 : t_ins 172 168 = some (.iconst 2) := by decide +kernel
theorem i_172_169 : t_ins 172 169 = some (.aaload) := by decide +kernel
theorem i_172_170 : t_ins 172 170 = some (.aload_n 0) := by decide +kernel
theorem i_172_171 : t_ins 172 171 = some (.getfield 20) := by decide +kernel
theorem i_172_174 : t_ins 172 174 = some (.iconst 2) := by decide +kernel
theorem i_172_175 : t_ins 172 175 = some (.iaload) := by decide +kernel
theorem i_172_176 : t_ins 172 176 = some (.aaload) := by decide +kernel
theorem i_172_177 : t_ins 172 177 = some (.invokevirtual 211) := by decide +kernel
theorem i_172_180 : t_ins 172 180 = some (.aload_n 0) := by decide +kernel
theorem i_172_181 : t_ins 172 181 = some (.getfield 20) := by decide +kernel
theorem i_172_184 : t_ins 172 184 = some (.iconst 2) := by decide +kernel
theorem i_172_185 : t_ins 172 185 = some (.dup2) := by decide +kernel
theorem i_172_186 : t_ins 172 186 = some (.iaload) := by decide +kernel
theorem i_172_187 : t_ins 172 187 = some (.iconst 1) := by decide +kernel
theorem i_172_188 : t_ins 172 188 = some (.iadd) := by decide +kernel
theorem i_172_189 : t_ins 172 189 = some (.iastore) := by decide +kernel
theorem i_172_190 : t_ins 172 190 = some (.return_) := by decide +kernel
theorem q_172_0 : XX d 172 0 [some (.ref a), v1, v2] st A Q ↔ XX d 172 1 [some (.ref a), v1, v2] (.ref a :: st) A Q := c_lcl i_172_0 rfl rfl
theorem q_172_1 : XX (d + 1) 172 1 [v0, v1, v2] [.ref a0] (mk S I L R G) Q ↔ S a0 = some (.inr 12) ∧ XC d 159 [.ref a0] (mk S I L R G) (XK (d + 1) 172 1 [v0, v1, v2] [] Q) := c_callV i_172_1 rfl rfl rfl rfl (Nat.le_of_ble_eq_true rfl) (Nat.le_of_ble_eq_true rfl) rfl
theorem q_172_4 : XX d 172 4 [v0, v1, v2] (.int x1 :: st) A Q ↔ XX d 172 5 [v0, v1, v2] st A Q := c_stk i_172_4 rfl
theorem q_172_5 : XX d 172 5 [some (.ref a), v1, v2] st A Q ↔ XX d 172 6 [some (.ref a), v1, v2] (.ref a :: st) A Q := c_lcl i_172_5 rfl rfl
theorem q_172_6 : XX d 172 6 [v0, v1, v2] (.ref a :: st) (mk S I L R G) Q ↔ S a = some (.inr 12) ∧ XX d 172 9 [v0, v1, v2] (.int (I a 4) :: st) (mk S I L R G) Q := r_gf i_172_6 rfl (by decide) rfl
theorem q_172_9 : XX d 172 9 [some (.ref b), v1, v2] (.int x :: st) A Q ↔ XX d 172 10 [some (.ref b), some (.int x), v2] st A Q := c_lcl i_172_9 rfl rfl
theorem q_172_10 : XX d 172 10 [some (.ref a), v1, v2] st A Q ↔ XX d 172 11 [some (.ref a), v1, v2] (.ref a :: st) A Q := c_lcl i_172_10 rfl rfl
theorem q_172_11 : XX d 172 11 [v0, v1, v2] st (mk S I L R G) Q ↔ XX d 172 13 [v0, v1, v2] (.ref (G.2.2 10) :: st) (mk S I L R G) Q := r_lds i_172_11 rfl rfl
theorem q_172_13 : XX (d + 1) 172 13 [v0, v1, v2] [.ref a1, .ref a0] (mk S I L R G) Q ↔ S a0 = some (.inr 12) ∧ XC d 166 [.ref a0, .ref a1] (mk S I L R G) (XK (d + 1) 172 13 [v0, v1, v2] [] Q) := c_callV i_172_13 rfl rfl rfl rfl (Nat.le_of_ble_eq_true rfl) (Nat.le_of_ble_eq_true rfl) rfl
theorem q_172_16 : XX d 172 16 [v0, v1, v2] (.int x :: st) A Q ↔ if x = w 0 then XX d 172 19 [v0, v1, v2] st A Q else XX d 172 25 [v0, v1, v2] st A Q := z_ne i_172_16 rfl rfl rfl
theorem q_172_19 : XX d 172 19 [some (.ref a), v1, v2] st A Q ↔ XX d 172 20 [some (.ref a), v1, v2] (.ref a :: st) A Q := c_lcl i_172_19 rfl rfl
theorem q_172_20 : XX d 172 20 [v0, v1, v2] st A Q ↔ XX d 172 21 [v0, v1, v2] (.int (w 1) :: st) A Q := c_stk i_172_20 rfl
theorem q_172_21 : XX d 172 21 [v0, some (.int x), v2] st A Q ↔ XX d 172 22 [v0, some (.int x), v2] (.int x :: st) A Q := c_lcl i_172_21 rfl rfl
theorem q_172_22 : XX (d + 1) 172 22 [v0, v1, v2] [.int x2, .int x1, .ref a0] (mk S I L R G) Q ↔ S a0 = some (.inr 12) ∧ XC d 161 [.ref a0, .int x1, .int x2] (mk S I L R G) (XK (d + 1) 172 22 [v0, v1, v2] [] Q) := c_callV i_172_22 rfl rfl rfl rfl (Nat.le_of_ble_eq_true rfl) (Nat.le_of_ble_eq_true rfl) rfl
theorem q_172_25 : XX d 172 25 [some (.ref a), v1, v2] st A Q ↔ XX d 172 26 [some (.ref a), v1, v2] (.ref a :: st) A Q := c_lcl i_172_25 rfl rfl
theorem q_172_26 : XX (d + 1) 172 26 [v0, v1, v2] [.ref a0] (mk S I L R G) Q ↔ S a0 = some (.inr 12) ∧ XC d 160 [.ref a0] (mk S I L R G) (XK (d + 1) 172 26 [v0, v1, v2] [] Q) := c_callV i_172_26 rfl rfl rfl rfl (Nat.le_of_ble_eq_true rfl) (Nat.le_of_ble_eq_true rfl) rfl
theorem q_172_29 : XX d 172 29 [v0, v1, v2] (.int x :: st) A Q ↔ if x = w 0 then XX d 172 49 [v0, v1, v2] st A Q else XX d 172 32 [v0, v1, v2] st A Q := z_eq i_172_29 rfl rfl rfl
theorem q_172_32 : XX d 172 32 [some (.ref a), v1, v2] st A Q ↔ XX d 172 33 [some (.ref a), v1, v2] (.ref a :: st) A Q := c_lcl i_172_32 rfl rfl
theorem q_172_33 : XX d 172 33 [v0, v1, v2] (.ref a :: st) (mk S I L R G) Q ↔ S a = some (.inr 12) ∧ XX d 172 36 [v0, v1, v2] (.ref (a + 3) :: st) (mk S I L R G) Q := r_gf i_172_33 rfl (by decide) rfl
theorem q_172_36 : XX d 172 36 [v0, v1, v2] st A Q ↔ XX d 172 37 [v0, v1, v2] (.int (w 2) :: st) A Q := c_stk i_172_36 rfl
theorem q_172_37 : XX d 172 37 [v0, v1, v2] (.int x :: .ref a :: st) (mk S I L R G) Q ↔ inA (S a) ok_i x ∧ XX d 172 38 [v0, v1, v2] (.int (I a (ix x)) :: st) (mk S I L R G) Q := r_ia i_172_37
theorem q_172_38 : XX d 172 38 [v0, v1, v2] st A Q ↔ XX d 172 40 [v0, v1, v2] (.int (w 30) :: st) A Q := c_stk i_172_38 rfl
theorem q_172_40 : XX d 172 40 [v0, v1, v2] (.int y :: .int x :: st) A Q ↔ if x = y then XX d 172 43 [v0, v1, v2] st A Q else XX d 172 49 [v0, v1, v2] st A Q := b_ne i_172_40 rfl rfl rfl
theorem q_172_43 : XX d 172 43 [some (.ref a), v1, v2] st A Q ↔ XX d 172 44 [some (.ref a), v1, v2] (.ref a :: st) A Q := c_lcl i_172_43 rfl rfl
theorem q_172_44 : XX d 172 44 [v0, v1, v2] st A Q ↔ XX d 172 45 [v0, v1, v2] (.int (w 3) :: st) A Q := c_stk i_172_44 rfl
theorem q_172_45 : XX d 172 45 [v0, some (.int x), v2] st A Q ↔ XX d 172 46 [v0, some (.int x), v2] (.int x :: st) A Q := c_lcl i_172_45 rfl rfl
theorem q_172_46 : XX (d + 1) 172 46 [v0, v1, v2] [.int x2, .int x1, .ref a0] (mk S I L R G) Q ↔ S a0 = some (.inr 12) ∧ XC d 161 [.ref a0, .int x1, .int x2] (mk S I L R G) (XK (d + 1) 172 46 [v0, v1, v2] [] Q) := c_callV i_172_46 rfl rfl rfl rfl (Nat.le_of_ble_eq_true rfl) (Nat.le_of_ble_eq_true rfl) rfl
theorem q_172_49 : XX d 172 49 [some (.ref a), v1, v2] st A Q ↔ XX d 172 50 [some (.ref a), v1, v2] (.ref a :: st) A Q := c_lcl i_172_49 rfl rfl
theorem q_172_50 : XX (d + 1) 172 50 [v0, v1, v2] [.ref a0] (mk S I L R G) Q ↔ S a0 = some (.inr 12) ∧ XC d 160 [.ref a0] (mk S I L R G) (XK (d + 1) 172 50 [v0, v1, v2] [] Q) := c_callV i_172_50 rfl rfl rfl rfl (Nat.le_of_ble_eq_true rfl) (Nat.le_of_ble_eq_true rfl) rfl
theorem q_172_53 : XX d 172 53 [v0, v1, v2] (.int x :: st) A Q ↔ if x = w 0 then XX d 172 56 [v0, v1, v2] st A Q else XX d 172 57 [v0, v1, v2] st A Q := z_ne i_172_53 rfl rfl rfl
theorem q_172_56 : XX d 172 56 [v0, v1, v2] [] A Q ↔ Q (.inl none) A := e_retN i_172_56 rfl
theorem q_172_57 : XX d 172 57 [some (.ref a), v1, v2] st A Q ↔ XX d 172 58 [some (.ref a), v1, v2] (.ref a :: st) A Q := c_lcl i_172_57 rfl rfl
theorem q_172_58 : XX d 172 58 [v0, v1, v2] (.ref a :: st) (mk S I L R G) Q ↔ S a = some (.inr 12) ∧ XX d 172 61 [v0, v1, v2] (.ref (a + 5) :: st) (mk S I L R G) Q := r_gf i_172_58 rfl (by decide) rfl
theorem q_172_61 : XX d 172 61 [v0, v1, v2] st A Q ↔ XX d 172 62 [v0, v1, v2] (.int (w 2) :: st) A Q := c_stk i_172_61 rfl
theorem q_172_62 : XX d 172 62 [v0, v1, v2] (.int x :: .ref a :: st) (mk S I L R G) Q ↔ inA (S a) ok_q x ∧ XX d 172 63 [v0, v1, v2] (va_rf (R a (ix x)) :: st) (mk S I L R G) Q := r_aq i_172_62
theorem q_172_63 : XX d 172 63 [some (.ref a), v1, v2] st A Q ↔ XX d 172 64 [some (.ref a), v1, v2] (.ref a :: st) A Q := c_lcl i_172_63 rfl rfl
theorem q_172_64 : XX d 172 64 [v0, v1, v2] (.ref a :: st) (mk S I L R G) Q ↔ S a = some (.inr 12) ∧ XX d 172 67 [v0, v1, v2] (.ref (a + 3) :: st) (mk S I L R G) Q := r_gf i_172_64 rfl (by decide) rfl
theorem q_172_67 : XX d 172 67 [v0, v1, v2] st A Q ↔ XX d 172 68 [v0, v1, v2] (.int (w 2) :: st) A Q := c_stk i_172_67 rfl
theorem q_172_68 : XX d 172 68 [v0, v1, v2] (.int x :: .ref a :: st) (mk S I L R G) Q ↔ inA (S a) ok_i x ∧ XX d 172 69 [v0, v1, v2] (.int (I a (ix x)) :: st) (mk S I L R G) Q := r_ia i_172_68
theorem q_172_69 : XX d 172 69 [v0, v1, v2] (.int x :: .ref a :: st) (mk S I L R G) Q ↔ inA (S a) ok_q x ∧ XX d 172 70 [v0, v1, v2] (va_rf (R a (ix x)) :: st) (mk S I L R G) Q := r_aq i_172_69
theorem q_172_70 : XX d 172 70 [v0, some (.int z), v2] (.ref a :: st) A Q ↔ XX d 172 71 [v0, some (.int z), some (.ref a)] st A Q := c_lcl i_172_70 rfl rfl
theorem q_172_70o : XX d 172 70 [v0, some (.int z), v2] (va_rf o :: st) A Q ↔ XX d 172 71 [v0, some (.int z), some (va_rf o)] st A Q := by cases o <;> exact c_lcl i_172_70 rfl rfl
theorem q_172_71 : XX d 172 71 [v0, v1, some (.ref a)] st A Q ↔ XX d 172 72 [v0, v1, some (.ref a)] (.ref a :: st) A Q := c_lcl i_172_71 rfl rfl
theorem q_172_71o : XX d 172 71 [v0, v1, some (va_rf o)] st A Q ↔ XX d 172 72 [v0, v1, some (va_rf o)] (va_rf o :: st) A Q := by cases o <;> exact c_lcl i_172_71 rfl rfl
theorem q_172_72 : XX d 172 72 [v0, v1, v2] st A Q ↔ XX d 172 73 [v0, v1, v2] (.int (w 0) :: st) A Q := c_stk i_172_72 rfl
theorem q_172_73 : XX d 172 73 [some (.ref a), v1, v2] st A Q ↔ XX d 172 74 [some (.ref a), v1, v2] (.ref a :: st) A Q := c_lcl i_172_73 rfl rfl
theorem q_172_74 : XX d 172 74 [v0, v1, v2] st A Q ↔ XX d 172 75 [v0, v1, v2] (.int (w 0) :: st) A Q := c_stk i_172_74 rfl
theorem q_172_75 : XX d 172 75 [v0, v1, v2] st A Q ↔ XX d 172 77 [v0, v1, v2] (.int (w 999999999) :: st) A Q := r_ldc i_172_75 rfl
theorem q_172_77 : XX (d + 1) 172 77 [v0, v1, v2] [.int x2, .int x1, .ref a0, .int x3, .ref a4] (mk S I L R G) Q ↔ S a0 = some (.inr 12) ∧ XC d 164 [.ref a0, .int x1, .int x2] (mk S I L R G) (XK (d + 1) 172 77 [v0, v1, v2] [.int x3, .ref a4] Q) := c_callV i_172_77 rfl rfl rfl rfl (Nat.le_of_ble_eq_true rfl) (Nat.le_of_ble_eq_true rfl) rfl
theorem q_172_80 : XX d 172 80 [v0, v1, v2] (.int y :: .int x :: .ref a :: st) (mk S I L R G) Q ↔ inA (S a) ok_0 x ∧ XX d 172 81 [v0, v1, v2] st (mk S (wr I a (up (I a) (ix x) y)) L R G) Q := r_ias i_172_80
theorem q_172_81 : XX d 172 81 [v0, v1, some (.ref a)] st A Q ↔ XX d 172 82 [v0, v1, some (.ref a)] (.ref a :: st) A Q := c_lcl i_172_81 rfl rfl
theorem q_172_81o : XX d 172 81 [v0, v1, some (va_rf o)] st A Q ↔ XX d 172 82 [v0, v1, some (va_rf o)] (va_rf o :: st) A Q := by cases o <;> exact c_lcl i_172_81 rfl rfl
theorem q_172_82 : XX d 172 82 [v0, v1, v2] st A Q ↔ XX d 172 83 [v0, v1, v2] (.int (w 1) :: st) A Q := c_stk i_172_82 rfl
theorem q_172_83 : XX d 172 83 [some (.ref a), v1, v2] st A Q ↔ XX d 172 84 [some (.ref a), v1, v2] (.ref a :: st) A Q := c_lcl i_172_83 rfl rfl
theorem q_172_84 : XX d 172 84 [v0, v1, v2] st (mk S I L R G) Q ↔ XX d 172 86 [v0, v1, v2] (.ref (G.2.2 11) :: st) (mk S I L R G) Q := r_lds i_172_84 rfl rfl
theorem q_172_86 : XX (d + 1) 172 86 [v0, v1, v2] [.ref a1, .ref a0, .int x2, .ref a3] (mk S I L R G) Q ↔ S a0 = some (.inr 12) ∧ XC d 166 [.ref a0, .ref a1] (mk S I L R G) (XK (d + 1) 172 86 [v0, v1, v2] [.int x2, .ref a3] Q) := c_callV i_172_86 rfl rfl rfl rfl (Nat.le_of_ble_eq_true rfl) (Nat.le_of_ble_eq_true rfl) rfl
theorem q_172_89 : XX d 172 89 [v0, v1, v2] (.int x :: st) A Q ↔ if x = w 0 then XX d 172 104 [v0, v1, v2] st A Q else XX d 172 92 [v0, v1, v2] st A Q := z_eq i_172_89 rfl rfl rfl
theorem q_172_92 : XX d 172 92 [some (.ref a), v1, v2] st A Q ↔ XX d 172 93 [some (.ref a), v1, v2] (.ref a :: st) A Q := c_lcl i_172_92 rfl rfl
theorem q_172_93 : XX d 172 93 [v0, v1, some (.ref a)] st A Q ↔ XX d 172 94 [v0, v1, some (.ref a)] (.ref a :: st) A Q := c_lcl i_172_93 rfl rfl
theorem q_172_93o : XX d 172 93 [v0, v1, some (va_rf o)] st A Q ↔ XX d 172 94 [v0, v1, some (va_rf o)] (va_rf o :: st) A Q := by cases o <;> exact c_lcl i_172_93 rfl rfl
theorem q_172_94 : XX d 172 94 [v0, v1, v2] st A Q ↔ XX d 172 95 [v0, v1, v2] (.int (w 0) :: st) A Q := c_stk i_172_94 rfl
theorem q_172_95 : XX d 172 95 [v0, v1, v2] (.int x :: .ref a :: st) (mk S I L R G) Q ↔ inA (S a) ok_i x ∧ XX d 172 96 [v0, v1, v2] (.int (I a (ix x)) :: st) (mk S I L R G) Q := r_ia i_172_95
theorem q_172_96 : XX d 172 96 [v0, v1, v2] st A Q ↔ XX d 172 98 [v0, v1, v2] (.int (w 999999999) :: st) A Q := r_ldc i_172_96 rfl
theorem q_172_98 : XX (d + 1) 172 98 [v0, v1, v2] [.int x2, .int x1, .ref a0, .int x3, .ref a4] (mk S I L R G) Q ↔ S a0 = some (.inr 12) ∧ XC d 164 [.ref a0, .int x1, .int x2] (mk S I L R G) (XK (d + 1) 172 98 [v0, v1, v2] [.int x3, .ref a4] Q) := c_callV i_172_98 rfl rfl rfl rfl (Nat.le_of_ble_eq_true rfl) (Nat.le_of_ble_eq_true rfl) rfl
theorem q_172_101 : XX d 172 101 [v0, v1, v2] st A Q ↔ XX d 172 107 [v0, v1, v2] st A Q := c_go i_172_101 rfl rfl
theorem q_172_104 : XX d 172 104 [v0, v1, some (.ref a)] st A Q ↔ XX d 172 105 [v0, v1, some (.ref a)] (.ref a :: st) A Q := c_lcl i_172_104 rfl rfl
theorem q_172_104o : XX d 172 104 [v0, v1, some (va_rf o)] st A Q ↔ XX d 172 105 [v0, v1, some (va_rf o)] (va_rf o :: st) A Q := by cases o <;> exact c_lcl i_172_104 rfl rfl
theorem q_172_105 : XX d 172 105 [v0, v1, v2] st A Q ↔ XX d 172 106 [v0, v1, v2] (.int (w 0) :: st) A Q := c_stk i_172_105 rfl
theorem q_172_106 : XX d 172 106 [v0, v1, v2] (.int x :: .ref a :: st) (mk S I L R G) Q ↔ inA (S a) ok_i x ∧ XX d 172 107 [v0, v1, v2] (.int (I a (ix x)) :: st) (mk S I L R G) Q := r_ia i_172_106
theorem q_172_107 : XX d 172 107 [v0, v1, v2] (.int y :: .int x :: .ref a :: st) (mk S I L R G) Q ↔ inA (S a) ok_0 x ∧ XX d 172 108 [v0, v1, v2] st (mk S (wr I a (up (I a) (ix x) y)) L R G) Q := r_ias i_172_107
theorem q_172_108 : XX d 172 108 [v0, v1, some (.ref a)] st A Q ↔ XX d 172 109 [v0, v1, some (.ref a)] (.ref a :: st) A Q := c_lcl i_172_108 rfl rfl
theorem q_172_108o : XX d 172 108 [v0, v1, some (va_rf o)] st A Q ↔ XX d 172 109 [v0, v1, some (va_rf o)] (va_rf o :: st) A Q := by cases o <;> exact c_lcl i_172_108 rfl rfl
theorem q_172_109 : XX d 172 109 [v0, v1, v2] st A Q ↔ XX d 172 110 [v0, v1, v2] (.int (w 2) :: st) A Q := c_stk i_172_109 rfl
theorem q_172_110 : XX d 172 110 [v0, v1, v2] st A Q ↔ XX d 172 111 [v0, v1, v2] (.int (w 1) :: st) A Q := c_stk i_172_110 rfl
theorem q_172_111 : XX d 172 111 [v0, v1, v2] (.int y :: .int x :: .ref a :: st) (mk S I L R G) Q ↔ inA (S a) ok_0 x ∧ XX d 172 112 [v0, v1, v2] st (mk S (wr I a (up (I a) (ix x) y)) L R G) Q := r_ias i_172_111
theorem q_172_112 : XX d 172 112 [v0, v1, some (.ref a)] st A Q ↔ XX d 172 113 [v0, v1, some (.ref a)] (.ref a :: st) A Q := c_lcl i_172_112 rfl rfl
theorem q_172_112o : XX d 172 112 [v0, v1, some (va_rf o)] st A Q ↔ XX d 172 113 [v0, v1, some (va_rf o)] (va_rf o :: st) A Q := by cases o <;> exact c_lcl i_172_112 rfl rfl
theorem q_172_113 : XX d 172 113 [v0, v1, v2] st A Q ↔ XX d 172 114 [v0, v1, v2] (.int (w 3) :: st) A Q := c_stk i_172_113 rfl
theorem q_172_114 : XX d 172 114 [v0, v1, v2] st A Q ↔ XX d 172 115 [v0, v1, v2] (.int (w 0) :: st) A Q := c_stk i_172_114 rfl
theorem q_172_115 : XX d 172 115 [v0, v1, v2] (.int y :: .int x :: .ref a :: st) (mk S I L R G) Q ↔ inA (S a) ok_0 x ∧ XX d 172 116 [v0, v1, v2] st (mk S (wr I a (up (I a) (ix x) y)) L R G) Q := r_ias i_172_115
theorem q_172_116 : XX d 172 116 [some (.ref a), v1, v2] st A Q ↔ XX d 172 117 [some (.ref a), v1, v2] (.ref a :: st) A Q := c_lcl i_172_116 rfl rfl
theorem q_172_117 : XX d 172 117 [v0, v1, v2] st (mk S I L R G) Q ↔ XX d 172 119 [v0, v1, v2] (.ref (G.2.2 12) :: st) (mk S I L R G) Q := r_lds i_172_117 rfl rfl
theorem q_172_119 : XX (d + 1) 172 119 [v0, v1, v2] [.ref a1, .ref a0] (mk S I L R G) Q ↔ S a0 = some (.inr 12) ∧ XC d 166 [.ref a0, .ref a1] (mk S I L R G) (XK (d + 1) 172 119 [v0, v1, v2] [] Q) := c_callV i_172_119 rfl rfl rfl rfl (Nat.le_of_ble_eq_true rfl) (Nat.le_of_ble_eq_true rfl) rfl
theorem q_172_122 : XX d 172 122 [v0, v1, v2] (.int x :: st) A Q ↔ if x = w 0 then XX d 172 149 [v0, v1, v2] st A Q else XX d 172 125 [v0, v1, v2] st A Q := z_eq i_172_122 rfl rfl rfl
theorem q_172_125 : XX d 172 125 [v0, v1, some (.ref a)] st A Q ↔ XX d 172 126 [v0, v1, some (.ref a)] (.ref a :: st) A Q := c_lcl i_172_125 rfl rfl
theorem q_172_125o : XX d 172 125 [v0, v1, some (va_rf o)] st A Q ↔ XX d 172 126 [v0, v1, some (va_rf o)] (va_rf o :: st) A Q := by cases o <;> exact c_lcl i_172_125 rfl rfl
theorem q_172_126 : XX d 172 126 [v0, v1, v2] st A Q ↔ XX d 172 127 [v0, v1, v2] (.int (w 2) :: st) A Q := c_stk i_172_126 rfl
theorem q_172_127 : XX d 172 127 [some (.ref a), v1, v2] st A Q ↔ XX d 172 128 [some (.ref a), v1, v2] (.ref a :: st) A Q := c_lcl i_172_127 rfl rfl
theorem q_172_128 : XX d 172 128 [v0, v1, v2] st A Q ↔ XX d 172 129 [v0, v1, v2] (.int (w 1) :: st) A Q := c_stk i_172_128 rfl
theorem q_172_129 : XX d 172 129 [v0, v1, v2] st A Q ↔ XX d 172 132 [v0, v1, v2] (.int (w 9999) :: st) A Q := c_stk i_172_129 rfl
theorem q_172_132 : XX (d + 1) 172 132 [v0, v1, v2] [.int x2, .int x1, .ref a0, .int x3, .ref a4] (mk S I L R G) Q ↔ S a0 = some (.inr 12) ∧ XC d 164 [.ref a0, .int x1, .int x2] (mk S I L R G) (XK (d + 1) 172 132 [v0, v1, v2] [.int x3, .ref a4] Q) := c_callV i_172_132 rfl rfl rfl rfl (Nat.le_of_ble_eq_true rfl) (Nat.le_of_ble_eq_true rfl) rfl
theorem q_172_135 : XX d 172 135 [v0, v1, v2] (.int y :: .int x :: .ref a :: st) (mk S I L R G) Q ↔ inA (S a) ok_0 x ∧ XX d 172 136 [v0, v1, v2] st (mk S (wr I a (up (I a) (ix x) y)) L R G) Q := r_ias i_172_135
theorem q_172_136 : XX d 172 136 [v0, v1, some (.ref a)] st A Q ↔ XX d 172 137 [v0, v1, some (.ref a)] (.ref a :: st) A Q := c_lcl i_172_136 rfl rfl
theorem q_172_136o : XX d 172 136 [v0, v1, some (va_rf o)] st A Q ↔ XX d 172 137 [v0, v1, some (va_rf o)] (va_rf o :: st) A Q := by cases o <;> exact c_lcl i_172_136 rfl rfl
theorem q_172_137 : XX d 172 137 [v0, v1, v2] st A Q ↔ XX d 172 138 [v0, v1, v2] (.int (w 3) :: st) A Q := c_stk i_172_137 rfl
theorem q_172_138 : XX d 172 138 [some (.ref a), v1, v2] st A Q ↔ XX d 172 139 [some (.ref a), v1, v2] (.ref a :: st) A Q := c_lcl i_172_138 rfl rfl
theorem q_172_139 : XX d 172 139 [v0, v1, v2] st A Q ↔ XX d 172 140 [v0, v1, v2] (.int (w 0) :: st) A Q := c_stk i_172_139 rfl
theorem q_172_140 : XX d 172 140 [v0, v1, some (.ref a)] st A Q ↔ XX d 172 141 [v0, v1, some (.ref a)] (.ref a :: st) A Q := c_lcl i_172_140 rfl rfl
theorem q_172_140o : XX d 172 140 [v0, v1, some (va_rf o)] st A Q ↔ XX d 172 141 [v0, v1, some (va_rf o)] (va_rf o :: st) A Q := by cases o <;> exact c_lcl i_172_140 rfl rfl
theorem q_172_141 : XX d 172 141 [v0, v1, v2] st A Q ↔ XX d 172 142 [v0, v1, v2] (.int (w 2) :: st) A Q := c_stk i_172_141 rfl
theorem q_172_142 : XX d 172 142 [v0, v1, v2] (.int x :: .ref a :: st) (mk S I L R G) Q ↔ inA (S a) ok_i x ∧ XX d 172 143 [v0, v1, v2] (.int (I a (ix x)) :: st) (mk S I L R G) Q := r_ia i_172_142
theorem q_172_143 : XX d 172 143 [v0, v1, v2] st A Q ↔ XX d 172 144 [v0, v1, v2] (.int (w 1) :: st) A Q := c_stk i_172_143 rfl
theorem q_172_144 : XX d 172 144 [v0, v1, v2] (.int y :: .int x :: st) A Q ↔ XX d 172 145 [v0, v1, v2] (.int (x - y) :: st) A Q := c_stk i_172_144 rfl
theorem q_172_145 : XX (d + 1) 172 145 [v0, v1, v2] [.int x2, .int x1, .ref a0, .int x3, .ref a4] (mk S I L R G) Q ↔ S a0 = some (.inr 12) ∧ XC d 164 [.ref a0, .int x1, .int x2] (mk S I L R G) (XK (d + 1) 172 145 [v0, v1, v2] [.int x3, .ref a4] Q) := c_callV i_172_145 rfl rfl rfl rfl (Nat.le_of_ble_eq_true rfl) (Nat.le_of_ble_eq_true rfl) rfl
theorem q_172_148 : XX d 172 148 [v0, v1, v2] (.int y :: .int x :: .ref a :: st) (mk S I L R G) Q ↔ inA (S a) ok_0 x ∧ XX d 172 149 [v0, v1, v2] st (mk S (wr I a (up (I a) (ix x) y)) L R G) Q := r_ias i_172_148
theorem q_172_149 : XX d 172 149 [some (.ref a), v1, v2] st A Q ↔ XX d 172 150 [some (.ref a), v1, v2] (.ref a :: st) A Q := c_lcl i_172_149 rfl rfl
theorem q_172_150 : XX d 172 150 [v0, v1, v2] st (mk S I L R G) Q ↔ XX d 172 152 [v0, v1, v2] (.ref (G.2.2 13) :: st) (mk S I L R G) Q := r_lds i_172_150 rfl rfl
theorem q_172_152 : XX (d + 1) 172 152 [v0, v1, v2] [.ref a1, .ref a0] (mk S I L R G) Q ↔ S a0 = some (.inr 12) ∧ XC d 167 [.ref a0, .ref a1] (mk S I L R G) (XK (d + 1) 172 152 [v0, v1, v2] [] Q) := c_callV i_172_152 rfl rfl rfl rfl (Nat.le_of_ble_eq_true rfl) (Nat.le_of_ble_eq_true rfl) rfl
theorem q_172_155 : XX d 172 155 [some (.ref a), v1, v2] st A Q ↔ XX d 172 156 [some (.ref a), v1, v2] (.ref a :: st) A Q := c_lcl i_172_155 rfl rfl
theorem q_172_156 : XX (d + 1) 172 156 [v0, v1, v2] [.ref a0] (mk S I L R G) Q ↔ S a0 = some (.inr 12) ∧ XC d 160 [.ref a0] (mk S I L R G) (XK (d + 1) 172 156 [v0, v1, v2] [] Q) := c_callV i_172_156 rfl rfl rfl rfl (Nat.le_of_ble_eq_true rfl) (Nat.le_of_ble_eq_true rfl) rfl
theorem q_172_159 : XX d 172 159 [v0, v1, v2] (.int x :: st) A Q ↔ if x = w 0 then XX d 172 180 [v0, v1, v2] st A Q else XX d 172 162 [v0, v1, v2] st A Q := z_eq i_172_159 rfl rfl rfl
theorem q_172_162 : XX d 172 162 [some (.ref a), v1, v2] st A Q ↔ XX d 172 163 [some (.ref a), v1, v2] (.ref a :: st) A Q := c_lcl i_172_162 rfl rfl
theorem q_172_163 : XX d 172 163 [v0, v1, some (.ref a)] st A Q ↔ XX d 172 164 [v0, v1, some (.ref a)] (.ref a :: st) A Q := c_lcl i_172_163 rfl rfl
theorem q_172_163o : XX d 172 163 [v0, v1, some (va_rf o)] st A Q ↔ XX d 172 164 [v0, v1, some (va_rf o)] (va_rf o :: st) A Q := by cases o <;> exact c_lcl i_172_163 rfl rfl
theorem q_172_164 : XX d 172 164 [some (.ref a), v1, v2] st A Q ↔ XX d 172 165 [some (.ref a), v1, v2] (.ref a :: st) A Q := c_lcl i_172_164 rfl rfl
theorem q_172_165 : XX d 172 165 [v0, v1, v2] (.ref a :: st) (mk S I L R G) Q ↔ S a = some (.inr 12) ∧ XX d 172 168 [v0, v1, v2] (.ref (a + 843) :: st) (mk S I L R G) Q := r_gf i_172_165 rfl (by decide) rfl
theorem q_172_168 : XX d 172 168 [v0, v1, v2] st A Q ↔ XX d 172 169 [v0, v1, v2] (.int (w 2) :: st) A Q := c_stk i_172_168 rfl
theorem q_172_169 : XX d 172 169 [v0, v1, v2] (.int x :: .ref a :: st) (mk S I L R G) Q ↔ inA (S a) ok_q x ∧ XX d 172 170 [v0, v1, v2] (va_rf (R a (ix x)) :: st) (mk S I L R G) Q := r_aq i_172_169
theorem q_172_170 : XX d 172 170 [some (.ref a), v1, v2] st A Q ↔ XX d 172 171 [some (.ref a), v1, v2] (.ref a :: st) A Q := c_lcl i_172_170 rfl rfl
theorem q_172_171 : XX d 172 171 [v0, v1, v2] (.ref a :: st) (mk S I L R G) Q ↔ S a = some (.inr 12) ∧ XX d 172 174 [v0, v1, v2] (.ref (a + 3) :: st) (mk S I L R G) Q := r_gf i_172_171 rfl (by decide) rfl
theorem q_172_174 : XX d 172 174 [v0, v1, v2] st A Q ↔ XX d 172 175 [v0, v1, v2] (.int (w 2) :: st) A Q := c_stk i_172_174 rfl
theorem q_172_175 : XX d 172 175 [v0, v1, v2] (.int x :: .ref a :: st) (mk S I L R G) Q ↔ inA (S a) ok_i x ∧ XX d 172 176 [v0, v1, v2] (.int (I a (ix x)) :: st) (mk S I L R G) Q := r_ia i_172_175
theorem q_172_176 : XX d 172 176 [v0, v1, v2] (.int x :: .ref a :: st) (mk S I L R G) Q ↔ inA (S a) ok_q x ∧ XX d 172 177 [v0, v1, v2] (va_rf (R a (ix x)) :: st) (mk S I L R G) Q := r_aq i_172_176
theorem q_172_177 : XX (d + 1) 172 177 [v0, v1, v2] [.ref a2, .ref a1, .ref a0] (mk S I L R G) Q ↔ S a0 = some (.inr 12) ∧ XC d 171 [.ref a0, .ref a1, .ref a2] (mk S I L R G) (XK (d + 1) 172 177 [v0, v1, v2] [] Q) := c_callV i_172_177 rfl rfl rfl rfl (Nat.le_of_ble_eq_true rfl) (Nat.le_of_ble_eq_true rfl) rfl
theorem q_172_180 : XX d 172 180 [some (.ref a), v1, v2] st A Q ↔ XX d 172 181 [some (.ref a), v1, v2] (.ref a :: st) A Q := c_lcl i_172_180 rfl rfl
theorem q_172_181 : XX d 172 181 [v0, v1, v2] (.ref a :: st) (mk S I L R G) Q ↔ S a = some (.inr 12) ∧ XX d 172 184 [v0, v1, v2] (.ref (a + 3) :: st) (mk S I L R G) Q := r_gf i_172_181 rfl (by decide) rfl
theorem q_172_184 : XX d 172 184 [v0, v1, v2] st A Q ↔ XX d 172 185 [v0, v1, v2] (.int (w 2) :: st) A Q := c_stk i_172_184 rfl
theorem q_172_185 : XX d 172 185 [v0, v1, v2] (.int x1 :: .ref a2 :: st) A Q ↔ XX d 172 186 [v0, v1, v2] (.int x1 :: .ref a2 :: .int x1 :: .ref a2 :: st) A Q := c_stk i_172_185 rfl
theorem q_172_186 : XX d 172 186 [v0, v1, v2] (.int x :: .ref a :: st) (mk S I L R G) Q ↔ inA (S a) ok_i x ∧ XX d 172 187 [v0, v1, v2] (.int (I a (ix x)) :: st) (mk S I L R G) Q := r_ia i_172_186
theorem q_172_187 : XX d 172 187 [v0, v1, v2] st A Q ↔ XX d 172 188 [v0, v1, v2] (.int (w 1) :: st) A Q := c_stk i_172_187 rfl
theorem q_172_188 : XX d 172 188 [v0, v1, v2] (.int y :: .int x :: st) A Q ↔ XX d 172 189 [v0, v1, v2] (.int (x + y) :: st) A Q := c_stk i_172_188 rfl
theorem q_172_189 : XX d 172 189 [v0, v1, v2] (.int y :: .int x :: .ref a :: st) (mk S I L R G) Q ↔ inA (S a) ok_0 x ∧ XX d 172 190 [v0, v1, v2] st (mk S (wr I a (up (I a) (ix x) y)) L R G) Q := r_ias i_172_189
theorem q_172_190 : XX d 172 190 [v0, v1, v2] [] A Q ↔ Q (.inl none) A := e_retN i_172_190 rfl
theorem q_172_e : XC d 172 [.ref a0] A Q ↔ XX d 172 0 [some (.ref a0), none, none] [] A Q := Iff.rfl
end

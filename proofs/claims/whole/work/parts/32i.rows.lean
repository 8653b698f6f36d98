/-! rows of methods 192 to 208 -/
section
variable {d : Nat} {Q : XO → Hp → Prop} {S : SH} {I : MI} {L : ML} {R : MR} {G : MG} {A : Hp} {st : List Value} {x y z x0 x1 x2 x3 x4 x5 x6 x7 x8 x9 : Int32} {lx ly l0 l1 l2 l3 l4 l5 l6 : Int64} {t kk jj a b a0 a1 a2 a3 a4 a5 a6 a7 a8 a9 : Nat} {o o0 o1 o2 o3 o4 : Option Nat} {v0 v1 v2 v3 v4 v5 v6 v7 v8 v9 v10 v11 v12 v13 v14 v15 v16 v17 v18 v19 v20 : Option Value}
theorem i_192_0 : t_ins 192 0 = some (.aload_n 0) := by decide +kernel
theorem i_192_1 : t_ins 192 1 = some (.getfield 28) := by decide +kernel
theorem i_192_4 : t_ins 192 4 = some (.iload_n 1) := by decide +kernel
theorem i_192_5 : t_ins 192 5 = some (.aaload) := by decide +kernel
theorem i_192_6 : t_ins 192 6 = some (.iload_n 3) := by decide +kernel
theorem i_192_7 : t_ins 192 7 = some (.aaload) := by decide +kernel
theorem i_192_8 : t_ins 192 8 = some (.astore 4) := by decide +kernel
theorem i_192_10 : t_ins 192 10 = some (.aload_n 0) := by decide +kernel
theorem i_192_11 : t_ins 192 11 = some (.getfield 281) := by decide +kernel
theorem i_192_14 : t_ins 192 14 = some (.istore 5) := by decide +kernel
theorem i_192_16 : t_ins 192 16 = some (.iconst 0) := by decide +kernel
theorem i_192_17 : t_ins 192 17 = some (.istore 6) := by decide +kernel
theorem i_192_19 : t_ins 192 19 = some (.iconst 0) := by decide +kernel
theorem i_192_20 : t_ins 192 20 = some (.istore 7) := by decide +kernel
theorem i_192_22 : t_ins 192 22 = some (.iload 7) := by decide +kernel
theorem i_192_24 : t_ins 192 24 = some (.aload 4) := by decide +kernel
theorem i_192_26 : t_ins 192 26 = some (.iconst 4) := by decide +kernel
theorem i_192_27 : t_ins 192 27 = some (.iaload) := by decide +kernel
theorem i_192_28 : t_ins 192 28 = some (.if_icmp .ge 283) := by decide +kernel
theorem i_192_31 : t_ins 192 31 = some (.aload 4) := by decide +kernel
theorem i_192_33 : t_ins 192 33 = some (.iconst 5) := by decide +kernel
theorem i_192_34 : t_ins 192 34 = some (.iconst 2) := by decide +kernel
theorem i_192_35 : t_ins 192 35 = some (.iload 7) := by decide +kernel
theorem i_192_37 : t_ins 192 37 = some (.imul) := by decide +kernel
theorem i_192_38 : t_ins 192 38 = some (.iadd) := by decide +kernel
theorem i_192_39 : t_ins 192 39 = some (.iaload) := by decide +kernel
theorem i_192_40 : t_ins 192 40 = some (.istore 8) := by decide +kernel
theorem i_192_42 : t_ins 192 42 = some (.aload 4) := by decide +kernel
theorem i_192_44 : t_ins 192 44 = some (.iconst 5) := by decide +kernel
theorem i_192_45 : t_ins 192 45 = some (.iconst 2) := by decide +kernel
theorem i_192_46 : t_ins 192 46 = some (.iload 7) := by decide +kernel
theorem i_192_48 : t_ins 192 48 = some (.imul) := by decide +kernel
theorem i_192_49 : t_ins 192 49 = some (.iadd) := by decide +kernel
theorem i_192_50 : t_ins 192 50 = some (.iconst 1) := by decide +kernel
theorem i_192_51 : t_ins 192 51 = some (.iadd) := by decide +kernel
theorem i_192_52 : t_ins 192 52 = some (.iaload) := by decide +kernel
theorem i_192_53 : t_ins 192 53 = some (.istore 9) := by decide +kernel
theorem i_192_55 : t_ins 192 55 = some (.aload_n 0) := by decide +kernel
theorem i_192_56 : t_ins 192 56 = some (.getfield 281) := by decide +kernel
theorem i_192_59 : t_ins 192 59 = some (.istore 10) := by decide +kernel
theorem i_192_61 : t_ins 192 61 = some (.iload 8) := by decide +kernel
theorem i_192_63 : t_ins 192 63 = some (.bipush 6) := by decide +kernel
theorem i_192_65 : t_ins 192 65 = some (.if_icmp .ne 9) := by decide +kernel
theorem i_192_68 : t_ins 192 68 = some (.iconst 1) := by decide +kernel
theorem i_192_69 : t_ins 192 69 = some (.istore 6) := by decide +kernel
theorem i_192_71 : t_ins 192 71 = some (.goto 234) := by decide +kernel
theorem i_192_74 : t_ins 192 74 = some (.aload_n 0) := by decide +kernel
theorem i_192_75 : t_ins 192 75 = some (.getfield 281) := by decide +kernel
theorem i_192_78 : t_ins 192 78 = some (.iload 5) := by decide +kernel
theorem i_192_80 : t_ins 192 80 = some (.if_icmp .le 12) := by decide +kernel
theorem i_192_83 : t_ins 192 83 = some (.iload 6) := by decide +kernel
theorem i_192_85 : t_ins 192 85 = some (.ifCond .ne 7) := by decide +kernel
theorem i_192_88 : t_ins 192 88 = some (.iconst 1) := by decide +kernel
theorem i_192_89 : t_ins 192 89 = some (.goto 4) := by decide +kernel
theorem i_192_92 : t_ins 192 92 = some (.iconst 0) := by decide +kernel
theorem i_192_93 : t_ins 192 93 = some (.istore 11) := by decide +kernel
theorem i_192_95 : t_ins 192 95 = some (.iload 11) := by decide +kernel
theorem i_192_97 : t_ins 192 97 = some (.ifCond .eq 24) := by decide +kernel
theorem i_192_100 : t_ins 192 100 = some (.aload_n 0) := by decide +kernel
theorem i_192_101 : t_ins 192 101 = some (.getfield 39) := by decide +kernel
theorem i_192_104 : t_ins 192 104 = some (.aload_n 0) := by decide +kernel
theorem i_192_105 : t_ins 192 105 = some (.getfield 281) := by decide +kernel
theorem i_192_108 : t_ins 192 108 = some (.bipush 32) := by decide +kernel
theorem i_192_110 : t_ins 192 110 = some (.bastore) := by decide +kernel
theorem i_192_111 : t_ins 192 111 = some (.aload_n 0) := by decide +kernel
theorem i_192_112 : t_ins 192 112 = some (.dup) := by decide +kernel
theorem i_192_113 : t_ins 192 113 = some (.getfield 281) := by decide +kernel
theorem i_192_116 : t_ins 192 116 = some (.iconst 1) := by decide +kernel
theorem i_192_117 : t_ins 192 117 = some (.iadd) := by decide +kernel
theorem i_192_118 : t_ins 192 118 = some (.putfield 281) := by decide +kernel
theorem i_192_121 : t_ins 192 121 = some (.aload_n 0) := by decide +kernel
theorem i_192_122 : t_ins 192 122 = some (.getfield 281) := by decide +kernel
theorem i_192_125 : t_ins 192 125 = some (.istore 12) := by decide +kernel
theorem i_192_127 : t_ins 192 127 = some (.iload 8) := by decide +kernel
theorem i_192_129 : t_ins 192 129 = some (.ifCond .ne 59) := by decide +kernel
theorem i_192_132 : t_ins 192 132 = some (.iconst 0) := by decide +kernel
theorem i_192_133 : t_ins 192 133 = some (.istore 13) := by decide +kernel
theorem i_192_135 : t_ins 192 135 = some (.iload 13) := by decide +kernel
theorem i_192_137 : t_ins 192 137 = some (.iload 9) := by decide +kernel
theorem i_192_139 : t_ins 192 139 = some (.if_icmp .ge 35) := by decide +kernel
theorem i_192_142 : t_ins 192 142 = some (.aload_n 0) := by decide +kernel
theorem i_192_143 : t_ins 192 143 = some (.getfield 39) := by decide +kernel
theorem i_192_146 : t_ins 192 146 = some (.aload_n 0) := by decide +kernel
theorem i_192_147 : t_ins 192 147 = some (.getfield 281) := by decide +kernel
theorem i_192_150 : t_ins 192 150 = some (.iload 13) := by decide +kernel
theorem i_192_152 : t_ins 192 152 = some (.iadd) := by decide +kernel
theorem i_192_153 : t_ins 192 153 = some (.aload_n 0) := by decide +kernel
theorem i_192_154 : t_ins 192 154 = some (.getfield 33) := by decide +kernel
theorem i_192_157 : t_ins 192 157 = some (.iload_n 1) := by decide +kernel
theorem i_192_158 : t_ins 192 158 = some (.aaload) := by decide +kernel
theorem i_192_159 : t_ins 192 159 = some (.iload_n 3) := by decide +kernel
theorem i_192_160 : t_ins 192 160 = some (.aaload) := by decide +kernel
theorem i_192_161 : t_ins 192 161 = some (.iload 7) := by decide +kernel
theorem i_192_163 : t_ins 192 163 = some (.aaload) := by decide +kernel
theorem i_192_164 : t_ins 192 164 = some (.iload 13) := by decide +kernel
theorem i_192_166 : t_ins 192 166 = some (.baload) := by decide +kernel
theorem i_192_167 : t_ins 192 167 = some (.bastore) := by decide +kernel
theorem i_192_168 : t_ins 192 168 = some (.iinc 13 1) := by decide +kernel
theorem i_192_171 : t_ins 192 171 = some (.goto (-36)) := by decide +kernel
theorem i_192_174 : t_ins 192 174 = some (.aload_n 0) := by decide +kernel
theorem i_192_175 : t_ins 192 175 = some (.dup) := by decide +kernel
theorem i_192_176 : t_ins 192 176 = some (.getfield 281) := by decide +kernel
theorem i_192_179 : t_ins 192 179 = some (.iload 9) := by decide +kernel
theorem i_192_181 : t_ins 192 181 = some (.iadd) := by decide +kernel
theorem i_192_182 : t_ins 192 182 = some (.putfield 281) := by decide +kernel
theorem i_192_185 : t_ins 192 185 = some (.goto 71) := by decide +kernel
theorem i_192_188 : t_ins 192 188 = some (.iload 8) := by decide +kernel
theorem i_192_190 : t_ins 192 190 = some (.iload_n 2) := by decide +kernel
theorem i_192_191 : t_ins 192 191 = some (.iload 9) := by decide +kernel
theorem i_192_193 : t_ins 192 193 = some (.invokestatic 284) := by decide +kernel
theorem i_192_196 : t_ins 192 196 = some (.lstore 13) := by decide +kernel
theorem i_192_198 : t_ins 192 198 = some (.aload_n 0) := by decide +kernel
theorem i_192_199 : t_ins 192 199 = some (.dup) := by decide +kernel
theorem i_192_200 : t_ins 192 200 = some (.getfield 272) := by decide +kernel
theorem i_192_203 : t_ins 192 203 = some (.lload 13) := by decide +kernel
theorem i_192_205 : t_ins 192 205 = some (.ldc2_w 263) := by decide +kernel
theorem i_192_208 : t_ins 192 208 = some (.lcmp) := by decide +kernel
theorem i_192_209 : t_ins 192 209 = some (.ifCond .ne 7) := by decide +kernel
theorem i_192_212 : t_ins 192 212 = some (.iconst 0) := by decide +kernel
theorem i_192_213 : t_ins 192 213 = some (.goto 4) := by decide +kernel
theorem i_192_216 : t_ins 192 216 = some (.iconst 1) := by decide +kernel
theorem i_192_217 : t_ins 192 217 = some (.iadd) := by decide +kernel
theorem i_192_218 : t_ins 192 218 = some (.putfield 272) := by decide +kernel
theorem i_192_221 : t_ins 192 221 = some (.lload 13) := by decide +kernel
theorem i_192_223 : t_ins 192 223 = some (.ldc2_w 263) := by decide +kernel
theorem i_192_226 : t_ins 192 226 = some (.lcmp) := by decide +kernel
theorem i_192_227 : t_ins 192 227 = some (.ifCond .eq 29) := by decide +kernel
theorem i_192_230 : t_ins 192 230 = some (.aload_n 0) := by decide +kernel
theorem i_192_231 : t_ins 192 231 = some (.iload_n 1) := by decide +kernel
theorem i_192_232 : t_ins 192 232 = some (.lload 13) := by decide +kernel
theorem i_192_234 : t_ins 192 234 = some (.invokevirtual 288) := by decide +kernel
theorem i_192_237 : t_ins 192 237 = some (.ifCond .ne 19) := by decide +kernel
theorem i_192_240 : t_ins 192 240 = some (.aload_n 0) := by decide +kernel
theorem i_192_241 : t_ins 192 241 = some (.iload 5) := by decide +kernel
theorem i_192_243 : t_ins 192 243 = some (.putfield 281) := by decide +kernel
theorem i_192_246 : t_ins 192 246 = some (.aload_n 0) := by decide +kernel
theorem i_192_247 : t_ins 192 247 = some (.iload_n 2) := by decide +kernel
theorem i_192_248 : t_ins 192 248 = some (.iconst 0) := by decide +kernel
theorem i_192_249 : t_ins 192 249 = some (.iload_n 3) := by decide +kernel
theorem i_192_250 : t_ins 192 250 = some (.iload 7) := by decide +kernel
theorem i_192_252 : t_ins 192 252 = some (.invokevirtual 265) := by decide +kernel
theorem i_192_255 : t_ins 192 255 = some (.ireturn) := by decide +kernel
theorem i_192_256 : t_ins 192 256 = some (.aload_n 0) := by decide +kernel
theorem i_192_257 : t_ins 192 257 = some (.getfield 281) := by decide +kernel
theorem i_192_260 : t_ins 192 260 = some (.iload 12) := by decide +kernel
theorem i_192_262 : t_ins 192 262 = some (.if_icmp .ne 12) := by decide +kernel
theorem i_192_265 : t_ins 192 265 = some (.aload_n 0) := by decide +kernel
theorem i_192_266 : t_ins 192 266 = some (.iload 10) := by decide +kernel
theorem i_192_268 : t_ins 192 268 = some (.putfield 281) := by decide +kernel
theorem i_192_271 : t_ins 192 271 = some (.goto 6) := by decide +kernel
theorem i_192_274 : t_ins 192 274 = some (.iconst 0) := by decide +kernel
theorem i_192_275 : t_ins 192 275 = some (.istore 6) := by decide +kernel
theorem i_192_277 : t_ins 192 277 = some (.aload_n 0) := by decide +kernel
theorem i_192_278 : t_ins 192 278 = some (.getfield 281) := by decide +kernel
theorem i_192_281 : t_ins 192 281 = some (.iload 5) := by decide +kernel
theorem i_192_283 : t_ins 192 283 = some (.isub) := by decide +kernel
theorem i_192_284 : t_ins 192 284 = some (.bipush 100) := by decide +kernel
theorem i_192_286 : t_ins 192 286 = some (.if_icmp .le 19) := by decide +kernel
theorem i_192_289 : t_ins 192 289 = some (.aload_n 0) := by decide +kernel
theorem i_192_290 : t_ins 192 290 = some (.iload 5) := by decide +kernel
theorem i_192_292 : t_ins 192 292 = some (.putfield 281) := by decide +kernel
theorem i_192_295 : t_ins 192 295 = some (.aload_n 0) := by decide +kernel
theorem i_192_296 : t_ins 192 296 = some (.iload_n 2) := by decide +kernel
theorem i_192_297 : t_ins 192 297 = some (.iconst 5) := by decide +kernel
theorem i_192_298 : t_ins 192 298 = some (.iload_n 3) := by decide +kernel
theorem i_192_299 : t_ins 192 299 = some (.iload 7) := by decide +kernel
theorem i_192_301 : t_ins 192 301 = some (.invokevirtual 265) := by decide +kernel
theorem i_192_304 : t_ins 192 304 = some (.ireturn) := by decide +kernel
theorem i_192_305 : t_ins 192 305 = some (.iinc 7 1) := by decide +kernel
theorem i_192_308 : t_ins 192 308 = some (.goto (-286)) := by decide +kernel
theorem i_192_311 : t_ins 192 311 = some (.iconst 1) := by decide +kernel
theorem i_192_312 : t_ins 192 312 = some (.ireturn) := by decide +kernel
theorem q_192_0 : XX d 192 0 [some (.ref a), v1, v2, v3, v4, v5, v6, v7, v8, v9, v10, v11, v12, v13, v14] st A Q ↔ XX d 192 1 [some (.ref a), v1, v2, v3, v4, v5, v6, v7, v8, v9, v10, v11, v12, v13, v14] (.ref a :: st) A Q := c_lcl i_192_0 rfl rfl
theorem q_192_1 : XX d 192 1 [v0, v1, v2, v3, v4, v5, v6, v7, v8, v9, v10, v11, v12, v13, v14] (.ref a :: st) (mk S I L R G) Q ↔ S a = some (.inr 12) ∧ XX d 192 4 [v0, v1, v2, v3, v4, v5, v6, v7, v8, v9, v10, v11, v12, v13, v14] (.ref (a + 5) :: st) (mk S I L R G) Q := r_gf i_192_1 rfl (by decide) rfl
theorem q_192_4 : XX d 192 4 [v0, some (.int x), v2, v3, v4, v5, v6, v7, v8, v9, v10, v11, v12, v13, v14] st A Q ↔ XX d 192 5 [v0, some (.int x), v2, v3, v4, v5, v6, v7, v8, v9, v10, v11, v12, v13, v14] (.int x :: st) A Q := c_lcl i_192_4 rfl rfl
theorem q_192_5 : XX d 192 5 [v0, v1, v2, v3, v4, v5, v6, v7, v8, v9, v10, v11, v12, v13, v14] (.int x :: .ref a :: st) (mk S I L R G) Q ↔ inA (S a) ok_q x ∧ XX d 192 6 [v0, v1, v2, v3, v4, v5, v6, v7, v8, v9, v10, v11, v12, v13, v14] (va_rf (R a (ix x)) :: st) (mk S I L R G) Q := r_aq i_192_5
theorem q_192_6 : XX d 192 6 [v0, v1, v2, some (.int x), v4, v5, v6, v7, v8, v9, v10, v11, v12, v13, v14] st A Q ↔ XX d 192 7 [v0, v1, v2, some (.int x), v4, v5, v6, v7, v8, v9, v10, v11, v12, v13, v14] (.int x :: st) A Q := c_lcl i_192_6 rfl rfl
theorem q_192_7 : XX d 192 7 [v0, v1, v2, v3, v4, v5, v6, v7, v8, v9, v10, v11, v12, v13, v14] (.int x :: .ref a :: st) (mk S I L R G) Q ↔ inA (S a) ok_q x ∧ XX d 192 8 [v0, v1, v2, v3, v4, v5, v6, v7, v8, v9, v10, v11, v12, v13, v14] (va_rf (R a (ix x)) :: st) (mk S I L R G) Q := r_aq i_192_7
theorem q_192_8 : XX d 192 8 [v0, v1, v2, some (.int z), v4, v5, v6, v7, v8, v9, v10, v11, v12, v13, v14] (.ref a :: st) A Q ↔ XX d 192 10 [v0, v1, v2, some (.int z), some (.ref a), v5, v6, v7, v8, v9, v10, v11, v12, v13, v14] st A Q := c_lcl i_192_8 rfl rfl
theorem q_192_8o : XX d 192 8 [v0, v1, v2, some (.int z), v4, v5, v6, v7, v8, v9, v10, v11, v12, v13, v14] (va_rf o :: st) A Q ↔ XX d 192 10 [v0, v1, v2, some (.int z), some (va_rf o), v5, v6, v7, v8, v9, v10, v11, v12, v13, v14] st A Q := by cases o <;> exact c_lcl i_192_8 rfl rfl
theorem q_192_10 : XX d 192 10 [some (.ref a), v1, v2, v3, v4, v5, v6, v7, v8, v9, v10, v11, v12, v13, v14] st A Q ↔ XX d 192 11 [some (.ref a), v1, v2, v3, v4, v5, v6, v7, v8, v9, v10, v11, v12, v13, v14] (.ref a :: st) A Q := c_lcl i_192_10 rfl rfl
theorem q_192_11 : XX d 192 11 [v0, v1, v2, v3, v4, v5, v6, v7, v8, v9, v10, v11, v12, v13, v14] (.ref a :: st) (mk S I L R G) Q ↔ S a = some (.inr 12) ∧ XX d 192 14 [v0, v1, v2, v3, v4, v5, v6, v7, v8, v9, v10, v11, v12, v13, v14] (.int (I a 16) :: st) (mk S I L R G) Q := r_gf i_192_11 rfl (by decide) rfl
theorem q_192_14 : XX d 192 14 [v0, v1, v2, v3, v4, v5, v6, v7, v8, v9, v10, v11, v12, v13, v14] (.int x :: st) A Q ↔ XX d 192 16 [v0, v1, v2, v3, kl v4, some (.int x), v6, v7, v8, v9, v10, v11, v12, v13, v14] st A Q := by (cases hz : x_two v4 <;> (refine c_lcl i_192_14 rfl ?_; simp [x_lcl, x_stI, x_stA, x_put, x_kill, x_get, kl, hz, va_rf]))
theorem q_192_16 : XX d 192 16 [v0, v1, v2, v3, v4, v5, v6, v7, v8, v9, v10, v11, v12, v13, v14] st A Q ↔ XX d 192 17 [v0, v1, v2, v3, v4, v5, v6, v7, v8, v9, v10, v11, v12, v13, v14] (.int (w 0) :: st) A Q := c_stk i_192_16 rfl
theorem q_192_17 : XX d 192 17 [v0, v1, v2, v3, v4, some (.int z), v6, v7, v8, v9, v10, v11, v12, v13, v14] (.int x :: st) A Q ↔ XX d 192 19 [v0, v1, v2, v3, v4, some (.int z), some (.int x), v7, v8, v9, v10, v11, v12, v13, v14] st A Q := c_lcl i_192_17 rfl rfl
theorem q_192_19 : XX d 192 19 [v0, v1, v2, v3, v4, v5, v6, v7, v8, v9, v10, v11, v12, v13, v14] st A Q ↔ XX d 192 20 [v0, v1, v2, v3, v4, v5, v6, v7, v8, v9, v10, v11, v12, v13, v14] (.int (w 0) :: st) A Q := c_stk i_192_19 rfl
theorem q_192_20 : XX d 192 20 [v0, v1, v2, v3, v4, v5, some (.int z), v7, v8, v9, v10, v11, v12, v13, v14] (.int x :: st) A Q ↔ XX d 192 22 [v0, v1, v2, v3, v4, v5, some (.int z), some (.int x), v8, v9, v10, v11, v12, v13, v14] st A Q := c_lcl i_192_20 rfl rfl
theorem q_192_22 : XX d 192 22 [v0, v1, v2, v3, v4, v5, v6, some (.int x), v8, v9, v10, v11, v12, v13, v14] st A Q ↔ XX d 192 24 [v0, v1, v2, v3, v4, v5, v6, some (.int x), v8, v9, v10, v11, v12, v13, v14] (.int x :: st) A Q := c_lcl i_192_22 rfl rfl
theorem q_192_24 : XX d 192 24 [v0, v1, v2, v3, some (.ref a), v5, v6, v7, v8, v9, v10, v11, v12, v13, v14] st A Q ↔ XX d 192 26 [v0, v1, v2, v3, some (.ref a), v5, v6, v7, v8, v9, v10, v11, v12, v13, v14] (.ref a :: st) A Q := c_lcl i_192_24 rfl rfl
theorem q_192_24o : XX d 192 24 [v0, v1, v2, v3, some (va_rf o), v5, v6, v7, v8, v9, v10, v11, v12, v13, v14] st A Q ↔ XX d 192 26 [v0, v1, v2, v3, some (va_rf o), v5, v6, v7, v8, v9, v10, v11, v12, v13, v14] (va_rf o :: st) A Q := by cases o <;> exact c_lcl i_192_24 rfl rfl
theorem q_192_26 : XX d 192 26 [v0, v1, v2, v3, v4, v5, v6, v7, v8, v9, v10, v11, v12, v13, v14] st A Q ↔ XX d 192 27 [v0, v1, v2, v3, v4, v5, v6, v7, v8, v9, v10, v11, v12, v13, v14] (.int (w 4) :: st) A Q := c_stk i_192_26 rfl
theorem q_192_27 : XX d 192 27 [v0, v1, v2, v3, v4, v5, v6, v7, v8, v9, v10, v11, v12, v13, v14] (.int x :: .ref a :: st) (mk S I L R G) Q ↔ inA (S a) ok_i x ∧ XX d 192 28 [v0, v1, v2, v3, v4, v5, v6, v7, v8, v9, v10, v11, v12, v13, v14] (.int (I a (ix x)) :: st) (mk S I L R G) Q := r_ia i_192_27
theorem q_192_28 : XX d 192 28 [v0, v1, v2, v3, v4, v5, v6, v7, v8, v9, v10, v11, v12, v13, v14] (.int y :: .int x :: st) A Q ↔ if x < y then XX d 192 31 [v0, v1, v2, v3, v4, v5, v6, v7, v8, v9, v10, v11, v12, v13, v14] st A Q else XX d 192 311 [v0, v1, v2, v3, v4, v5, v6, v7, v8, v9, v10, v11, v12, v13, v14] st A Q := b_ge i_192_28 rfl rfl rfl
theorem q_192_31 : XX d 192 31 [v0, v1, v2, v3, some (.ref a), v5, v6, v7, v8, v9, v10, v11, v12, v13, v14] st A Q ↔ XX d 192 33 [v0, v1, v2, v3, some (.ref a), v5, v6, v7, v8, v9, v10, v11, v12, v13, v14] (.ref a :: st) A Q := c_lcl i_192_31 rfl rfl
theorem q_192_31o : XX d 192 31 [v0, v1, v2, v3, some (va_rf o), v5, v6, v7, v8, v9, v10, v11, v12, v13, v14] st A Q ↔ XX d 192 33 [v0, v1, v2, v3, some (va_rf o), v5, v6, v7, v8, v9, v10, v11, v12, v13, v14] (va_rf o :: st) A Q := by cases o <;> exact c_lcl i_192_31 rfl rfl
theorem q_192_33 : XX d 192 33 [v0, v1, v2, v3, v4, v5, v6, v7, v8, v9, v10, v11, v12, v13, v14] st A Q ↔ XX d 192 34 [v0, v1, v2, v3, v4, v5, v6, v7, v8, v9, v10, v11, v12, v13, v14] (.int (w 5) :: st) A Q := c_stk i_192_33 rfl
theorem q_192_34 : XX d 192 34 [v0, v1, v2, v3, v4, v5, v6, v7, v8, v9, v10, v11, v12, v13, v14] st A Q ↔ XX d 192 35 [v0, v1, v2, v3, v4, v5, v6, v7, v8, v9, v10, v11, v12, v13, v14] (.int (w 2) :: st) A Q := c_stk i_192_34 rfl
theorem q_192_35 : XX d 192 35 [v0, v1, v2, v3, v4, v5, v6, some (.int x), v8, v9, v10, v11, v12, v13, v14] st A Q ↔ XX d 192 37 [v0, v1, v2, v3, v4, v5, v6, some (.int x), v8, v9, v10, v11, v12, v13, v14] (.int x :: st) A Q := c_lcl i_192_35 rfl rfl
theorem q_192_37 : XX d 192 37 [v0, v1, v2, v3, v4, v5, v6, v7, v8, v9, v10, v11, v12, v13, v14] (.int y :: .int x :: st) A Q ↔ XX d 192 38 [v0, v1, v2, v3, v4, v5, v6, v7, v8, v9, v10, v11, v12, v13, v14] (.int (x * y) :: st) A Q := c_stk i_192_37 rfl
theorem q_192_38 : XX d 192 38 [v0, v1, v2, v3, v4, v5, v6, v7, v8, v9, v10, v11, v12, v13, v14] (.int y :: .int x :: st) A Q ↔ XX d 192 39 [v0, v1, v2, v3, v4, v5, v6, v7, v8, v9, v10, v11, v12, v13, v14] (.int (x + y) :: st) A Q := c_stk i_192_38 rfl
theorem q_192_39 : XX d 192 39 [v0, v1, v2, v3, v4, v5, v6, v7, v8, v9, v10, v11, v12, v13, v14] (.int x :: .ref a :: st) (mk S I L R G) Q ↔ inA (S a) ok_i x ∧ XX d 192 40 [v0, v1, v2, v3, v4, v5, v6, v7, v8, v9, v10, v11, v12, v13, v14] (.int (I a (ix x)) :: st) (mk S I L R G) Q := r_ia i_192_39
theorem q_192_40 : XX d 192 40 [v0, v1, v2, v3, v4, v5, v6, some (.int z), v8, v9, v10, v11, v12, v13, v14] (.int x :: st) A Q ↔ XX d 192 42 [v0, v1, v2, v3, v4, v5, v6, some (.int z), some (.int x), v9, v10, v11, v12, v13, v14] st A Q := c_lcl i_192_40 rfl rfl
theorem q_192_42 : XX d 192 42 [v0, v1, v2, v3, some (.ref a), v5, v6, v7, v8, v9, v10, v11, v12, v13, v14] st A Q ↔ XX d 192 44 [v0, v1, v2, v3, some (.ref a), v5, v6, v7, v8, v9, v10, v11, v12, v13, v14] (.ref a :: st) A Q := c_lcl i_192_42 rfl rfl
theorem q_192_42o : XX d 192 42 [v0, v1, v2, v3, some (va_rf o), v5, v6, v7, v8, v9, v10, v11, v12, v13, v14] st A Q ↔ XX d 192 44 [v0, v1, v2, v3, some (va_rf o), v5, v6, v7, v8, v9, v10, v11, v12, v13, v14] (va_rf o :: st) A Q := by cases o <;> exact c_lcl i_192_42 rfl rfl
theorem q_192_44 : XX d 192 44 [v0, v1, v2, v3, v4, v5, v6, v7, v8, v9, v10, v11, v12, v13, v14] st A Q ↔ XX d 192 45 [v0, v1, v2, v3, v4, v5, v6, v7, v8, v9, v10, v11, v12, v13, v14] (.int (w 5) :: st) A Q := c_stk i_192_44 rfl
theorem q_192_45 : XX d 192 45 [v0, v1, v2, v3, v4, v5, v6, v7, v8, v9, v10, v11, v12, v13, v14] st A Q ↔ XX d 192 46 [v0, v1, v2, v3, v4, v5, v6, v7, v8, v9, v10, v11, v12, v13, v14] (.int (w 2) :: st) A Q := c_stk i_192_45 rfl
theorem q_192_46 : XX d 192 46 [v0, v1, v2, v3, v4, v5, v6, some (.int x), v8, v9, v10, v11, v12, v13, v14] st A Q ↔ XX d 192 48 [v0, v1, v2, v3, v4, v5, v6, some (.int x), v8, v9, v10, v11, v12, v13, v14] (.int x :: st) A Q := c_lcl i_192_46 rfl rfl
theorem q_192_48 : XX d 192 48 [v0, v1, v2, v3, v4, v5, v6, v7, v8, v9, v10, v11, v12, v13, v14] (.int y :: .int x :: st) A Q ↔ XX d 192 49 [v0, v1, v2, v3, v4, v5, v6, v7, v8, v9, v10, v11, v12, v13, v14] (.int (x * y) :: st) A Q := c_stk i_192_48 rfl
theorem q_192_49 : XX d 192 49 [v0, v1, v2, v3, v4, v5, v6, v7, v8, v9, v10, v11, v12, v13, v14] (.int y :: .int x :: st) A Q ↔ XX d 192 50 [v0, v1, v2, v3, v4, v5, v6, v7, v8, v9, v10, v11, v12, v13, v14] (.int (x + y) :: st) A Q := c_stk i_192_49 rfl
theorem q_192_50 : XX d 192 50 [v0, v1, v2, v3, v4, v5, v6, v7, v8, v9, v10, v11, v12, v13, v14] st A Q ↔ XX d 192 51 [v0, v1, v2, v3, v4, v5, v6, v7, v8, v9, v10, v11, v12, v13, v14] (.int (w 1) :: st) A Q := c_stk i_192_50 rfl
theorem q_192_51 : XX d 192 51 [v0, v1, v2, v3, v4, v5, v6, v7, v8, v9, v10, v11, v12, v13, v14] (.int y :: .int x :: st) A Q ↔ XX d 192 52 [v0, v1, v2, v3, v4, v5, v6, v7, v8, v9, v10, v11, v12, v13, v14] (.int (x + y) :: st) A Q := c_stk i_192_51 rfl
theorem q_192_52 : XX d 192 52 [v0, v1, v2, v3, v4, v5, v6, v7, v8, v9, v10, v11, v12, v13, v14] (.int x :: .ref a :: st) (mk S I L R G) Q ↔ inA (S a) ok_i x ∧ XX d 192 53 [v0, v1, v2, v3, v4, v5, v6, v7, v8, v9, v10, v11, v12, v13, v14] (.int (I a (ix x)) :: st) (mk S I L R G) Q := r_ia i_192_52
theorem q_192_53 : XX d 192 53 [v0, v1, v2, v3, v4, v5, v6, v7, some (.int z), v9, v10, v11, v12, v13, v14] (.int x :: st) A Q ↔ XX d 192 55 [v0, v1, v2, v3, v4, v5, v6, v7, some (.int z), some (.int x), v10, v11, v12, v13, v14] st A Q := c_lcl i_192_53 rfl rfl
theorem q_192_55 : XX d 192 55 [some (.ref a), v1, v2, v3, v4, v5, v6, v7, v8, v9, v10, v11, v12, v13, v14] st A Q ↔ XX d 192 56 [some (.ref a), v1, v2, v3, v4, v5, v6, v7, v8, v9, v10, v11, v12, v13, v14] (.ref a :: st) A Q := c_lcl i_192_55 rfl rfl
theorem q_192_56 : XX d 192 56 [v0, v1, v2, v3, v4, v5, v6, v7, v8, v9, v10, v11, v12, v13, v14] (.ref a :: st) (mk S I L R G) Q ↔ S a = some (.inr 12) ∧ XX d 192 59 [v0, v1, v2, v3, v4, v5, v6, v7, v8, v9, v10, v11, v12, v13, v14] (.int (I a 16) :: st) (mk S I L R G) Q := r_gf i_192_56 rfl (by decide) rfl
theorem q_192_59 : XX d 192 59 [v0, v1, v2, v3, v4, v5, v6, v7, v8, some (.int z), v10, v11, v12, v13, v14] (.int x :: st) A Q ↔ XX d 192 61 [v0, v1, v2, v3, v4, v5, v6, v7, v8, some (.int z), some (.int x), v11, v12, v13, v14] st A Q := c_lcl i_192_59 rfl rfl
theorem q_192_61 : XX d 192 61 [v0, v1, v2, v3, v4, v5, v6, v7, some (.int x), v9, v10, v11, v12, v13, v14] st A Q ↔ XX d 192 63 [v0, v1, v2, v3, v4, v5, v6, v7, some (.int x), v9, v10, v11, v12, v13, v14] (.int x :: st) A Q := c_lcl i_192_61 rfl rfl
theorem q_192_63 : XX d 192 63 [v0, v1, v2, v3, v4, v5, v6, v7, v8, v9, v10, v11, v12, v13, v14] st A Q ↔ XX d 192 65 [v0, v1, v2, v3, v4, v5, v6, v7, v8, v9, v10, v11, v12, v13, v14] (.int (w 6) :: st) A Q := c_stk i_192_63 rfl
theorem q_192_65 : XX d 192 65 [v0, v1, v2, v3, v4, v5, v6, v7, v8, v9, v10, v11, v12, v13, v14] (.int y :: .int x :: st) A Q ↔ if x = y then XX d 192 68 [v0, v1, v2, v3, v4, v5, v6, v7, v8, v9, v10, v11, v12, v13, v14] st A Q else XX d 192 74 [v0, v1, v2, v3, v4, v5, v6, v7, v8, v9, v10, v11, v12, v13, v14] st A Q := b_ne i_192_65 rfl rfl rfl
theorem q_192_68 : XX d 192 68 [v0, v1, v2, v3, v4, v5, v6, v7, v8, v9, v10, v11, v12, v13, v14] st A Q ↔ XX d 192 69 [v0, v1, v2, v3, v4, v5, v6, v7, v8, v9, v10, v11, v12, v13, v14] (.int (w 1) :: st) A Q := c_stk i_192_68 rfl
theorem q_192_69 : XX d 192 69 [v0, v1, v2, v3, v4, some (.int z), v6, v7, v8, v9, v10, v11, v12, v13, v14] (.int x :: st) A Q ↔ XX d 192 71 [v0, v1, v2, v3, v4, some (.int z), some (.int x), v7, v8, v9, v10, v11, v12, v13, v14] st A Q := c_lcl i_192_69 rfl rfl
theorem q_192_71 : XX d 192 71 [v0, v1, v2, v3, v4, v5, v6, v7, v8, v9, v10, v11, v12, v13, v14] st A Q ↔ XX d 192 305 [v0, v1, v2, v3, v4, v5, v6, v7, v8, v9, v10, v11, v12, v13, v14] st A Q := c_go i_192_71 rfl rfl
theorem q_192_74 : XX d 192 74 [some (.ref a), v1, v2, v3, v4, v5, v6, v7, v8, v9, v10, v11, v12, v13, v14] st A Q ↔ XX d 192 75 [some (.ref a), v1, v2, v3, v4, v5, v6, v7, v8, v9, v10, v11, v12, v13, v14] (.ref a :: st) A Q := c_lcl i_192_74 rfl rfl
theorem q_192_75 : XX d 192 75 [v0, v1, v2, v3, v4, v5, v6, v7, v8, v9, v10, v11, v12, v13, v14] (.ref a :: st) (mk S I L R G) Q ↔ S a = some (.inr 12) ∧ XX d 192 78 [v0, v1, v2, v3, v4, v5, v6, v7, v8, v9, v10, v11, v12, v13, v14] (.int (I a 16) :: st) (mk S I L R G) Q := r_gf i_192_75 rfl (by decide) rfl
theorem q_192_78 : XX d 192 78 [v0, v1, v2, v3, v4, some (.int x), v6, v7, v8, v9, v10, v11, v12, v13, v14] st A Q ↔ XX d 192 80 [v0, v1, v2, v3, v4, some (.int x), v6, v7, v8, v9, v10, v11, v12, v13, v14] (.int x :: st) A Q := c_lcl i_192_78 rfl rfl
theorem q_192_80 : XX d 192 80 [v0, v1, v2, v3, v4, v5, v6, v7, v8, v9, v10, v11, v12, v13, v14] (.int y :: .int x :: st) A Q ↔ if y < x then XX d 192 83 [v0, v1, v2, v3, v4, v5, v6, v7, v8, v9, v10, v11, v12, v13, v14] st A Q else XX d 192 92 [v0, v1, v2, v3, v4, v5, v6, v7, v8, v9, v10, v11, v12, v13, v14] st A Q := b_le i_192_80 rfl rfl rfl
theorem q_192_83 : XX d 192 83 [v0, v1, v2, v3, v4, v5, some (.int x), v7, v8, v9, v10, v11, v12, v13, v14] st A Q ↔ XX d 192 85 [v0, v1, v2, v3, v4, v5, some (.int x), v7, v8, v9, v10, v11, v12, v13, v14] (.int x :: st) A Q := c_lcl i_192_83 rfl rfl
theorem q_192_85 : XX d 192 85 [v0, v1, v2, v3, v4, v5, v6, v7, v8, v9, v10, v11, v12, v13, v14] (.int x :: st) A Q ↔ if x = w 0 then XX d 192 88 [v0, v1, v2, v3, v4, v5, v6, v7, v8, v9, v10, v11, v12, v13, v14] st A Q else XX d 192 92 [v0, v1, v2, v3, v4, v5, v6, v7, v8, v9, v10, v11, v12, v13, v14] st A Q := z_ne i_192_85 rfl rfl rfl
theorem q_192_88 : XX d 192 88 [v0, v1, v2, v3, v4, v5, v6, v7, v8, v9, v10, v11, v12, v13, v14] st A Q ↔ XX d 192 89 [v0, v1, v2, v3, v4, v5, v6, v7, v8, v9, v10, v11, v12, v13, v14] (.int (w 1) :: st) A Q := c_stk i_192_88 rfl
theorem q_192_89 : XX d 192 89 [v0, v1, v2, v3, v4, v5, v6, v7, v8, v9, v10, v11, v12, v13, v14] st A Q ↔ XX d 192 93 [v0, v1, v2, v3, v4, v5, v6, v7, v8, v9, v10, v11, v12, v13, v14] st A Q := c_go i_192_89 rfl rfl
theorem q_192_92 : XX d 192 92 [v0, v1, v2, v3, v4, v5, v6, v7, v8, v9, v10, v11, v12, v13, v14] st A Q ↔ XX d 192 93 [v0, v1, v2, v3, v4, v5, v6, v7, v8, v9, v10, v11, v12, v13, v14] (.int (w 0) :: st) A Q := c_stk i_192_92 rfl
theorem q_192_93 : XX d 192 93 [v0, v1, v2, v3, v4, v5, v6, v7, v8, v9, some (.int z), v11, v12, v13, v14] (.int x :: st) A Q ↔ XX d 192 95 [v0, v1, v2, v3, v4, v5, v6, v7, v8, v9, some (.int z), some (.int x), v12, v13, v14] st A Q := c_lcl i_192_93 rfl rfl
theorem q_192_95 : XX d 192 95 [v0, v1, v2, v3, v4, v5, v6, v7, v8, v9, v10, some (.int x), v12, v13, v14] st A Q ↔ XX d 192 97 [v0, v1, v2, v3, v4, v5, v6, v7, v8, v9, v10, some (.int x), v12, v13, v14] (.int x :: st) A Q := c_lcl i_192_95 rfl rfl
theorem q_192_97 : XX d 192 97 [v0, v1, v2, v3, v4, v5, v6, v7, v8, v9, v10, v11, v12, v13, v14] (.int x :: st) A Q ↔ if x = w 0 then XX d 192 121 [v0, v1, v2, v3, v4, v5, v6, v7, v8, v9, v10, v11, v12, v13, v14] st A Q else XX d 192 100 [v0, v1, v2, v3, v4, v5, v6, v7, v8, v9, v10, v11, v12, v13, v14] st A Q := z_eq i_192_97 rfl rfl rfl
theorem q_192_100 : XX d 192 100 [some (.ref a), v1, v2, v3, v4, v5, v6, v7, v8, v9, v10, v11, v12, v13, v14] st A Q ↔ XX d 192 101 [some (.ref a), v1, v2, v3, v4, v5, v6, v7, v8, v9, v10, v11, v12, v13, v14] (.ref a :: st) A Q := c_lcl i_192_100 rfl rfl
theorem q_192_101 : XX d 192 101 [v0, v1, v2, v3, v4, v5, v6, v7, v8, v9, v10, v11, v12, v13, v14] (.ref a :: st) (mk S I L R G) Q ↔ S a = some (.inr 12) ∧ XX d 192 104 [v0, v1, v2, v3, v4, v5, v6, v7, v8, v9, v10, v11, v12, v13, v14] (.ref (a + 6541) :: st) (mk S I L R G) Q := r_gf i_192_101 rfl (by decide) rfl
theorem q_192_104 : XX d 192 104 [some (.ref a), v1, v2, v3, v4, v5, v6, v7, v8, v9, v10, v11, v12, v13, v14] st A Q ↔ XX d 192 105 [some (.ref a), v1, v2, v3, v4, v5, v6, v7, v8, v9, v10, v11, v12, v13, v14] (.ref a :: st) A Q := c_lcl i_192_104 rfl rfl
theorem q_192_105 : XX d 192 105 [v0, v1, v2, v3, v4, v5, v6, v7, v8, v9, v10, v11, v12, v13, v14] (.ref a :: st) (mk S I L R G) Q ↔ S a = some (.inr 12) ∧ XX d 192 108 [v0, v1, v2, v3, v4, v5, v6, v7, v8, v9, v10, v11, v12, v13, v14] (.int (I a 16) :: st) (mk S I L R G) Q := r_gf i_192_105 rfl (by decide) rfl
theorem q_192_108 : XX d 192 108 [v0, v1, v2, v3, v4, v5, v6, v7, v8, v9, v10, v11, v12, v13, v14] st A Q ↔ XX d 192 110 [v0, v1, v2, v3, v4, v5, v6, v7, v8, v9, v10, v11, v12, v13, v14] (.int (w 32) :: st) A Q := c_stk i_192_108 rfl
theorem q_192_110 : XX d 192 110 [v0, v1, v2, v3, v4, v5, v6, v7, v8, v9, v10, v11, v12, v13, v14] (.int y :: .int x :: .ref a :: st) (mk S I L R G) Q ↔ bsP (S a) x y (fun y => XX d 192 111 [v0, v1, v2, v3, v4, v5, v6, v7, v8, v9, v10, v11, v12, v13, v14] st (mk S (wr I a (up (I a) (ix x) y)) L R G) Q) := r_bas i_192_110
theorem q_192_111 : XX d 192 111 [some (.ref a), v1, v2, v3, v4, v5, v6, v7, v8, v9, v10, v11, v12, v13, v14] st A Q ↔ XX d 192 112 [some (.ref a), v1, v2, v3, v4, v5, v6, v7, v8, v9, v10, v11, v12, v13, v14] (.ref a :: st) A Q := c_lcl i_192_111 rfl rfl
theorem q_192_112 : XX d 192 112 [v0, v1, v2, v3, v4, v5, v6, v7, v8, v9, v10, v11, v12, v13, v14] (.ref a1 :: st) A Q ↔ XX d 192 113 [v0, v1, v2, v3, v4, v5, v6, v7, v8, v9, v10, v11, v12, v13, v14] (.ref a1 :: .ref a1 :: st) A Q := c_stk i_192_112 rfl
theorem q_192_113 : XX d 192 113 [v0, v1, v2, v3, v4, v5, v6, v7, v8, v9, v10, v11, v12, v13, v14] (.ref a :: st) (mk S I L R G) Q ↔ S a = some (.inr 12) ∧ XX d 192 116 [v0, v1, v2, v3, v4, v5, v6, v7, v8, v9, v10, v11, v12, v13, v14] (.int (I a 16) :: st) (mk S I L R G) Q := r_gf i_192_113 rfl (by decide) rfl
theorem q_192_116 : XX d 192 116 [v0, v1, v2, v3, v4, v5, v6, v7, v8, v9, v10, v11, v12, v13, v14] st A Q ↔ XX d 192 117 [v0, v1, v2, v3, v4, v5, v6, v7, v8, v9, v10, v11, v12, v13, v14] (.int (w 1) :: st) A Q := c_stk i_192_116 rfl
theorem q_192_117 : XX d 192 117 [v0, v1, v2, v3, v4, v5, v6, v7, v8, v9, v10, v11, v12, v13, v14] (.int y :: .int x :: st) A Q ↔ XX d 192 118 [v0, v1, v2, v3, v4, v5, v6, v7, v8, v9, v10, v11, v12, v13, v14] (.int (x + y) :: st) A Q := c_stk i_192_117 rfl
theorem q_192_118 : XX d 192 118 [v0, v1, v2, v3, v4, v5, v6, v7, v8, v9, v10, v11, v12, v13, v14] (.int x :: .ref a :: st) (mk S I L R G) Q ↔ S a = some (.inr 12) ∧ XX d 192 121 [v0, v1, v2, v3, v4, v5, v6, v7, v8, v9, v10, v11, v12, v13, v14] st (mk S (wr I a (up (I a) 16 x)) L R G) Q := r_pf i_192_118 rfl (by decide) rfl rfl rfl
theorem q_192_121 : XX d 192 121 [some (.ref a), v1, v2, v3, v4, v5, v6, v7, v8, v9, v10, v11, v12, v13, v14] st A Q ↔ XX d 192 122 [some (.ref a), v1, v2, v3, v4, v5, v6, v7, v8, v9, v10, v11, v12, v13, v14] (.ref a :: st) A Q := c_lcl i_192_121 rfl rfl
theorem q_192_122 : XX d 192 122 [v0, v1, v2, v3, v4, v5, v6, v7, v8, v9, v10, v11, v12, v13, v14] (.ref a :: st) (mk S I L R G) Q ↔ S a = some (.inr 12) ∧ XX d 192 125 [v0, v1, v2, v3, v4, v5, v6, v7, v8, v9, v10, v11, v12, v13, v14] (.int (I a 16) :: st) (mk S I L R G) Q := r_gf i_192_122 rfl (by decide) rfl
theorem q_192_125 : XX d 192 125 [v0, v1, v2, v3, v4, v5, v6, v7, v8, v9, v10, some (.int z), v12, v13, v14] (.int x :: st) A Q ↔ XX d 192 127 [v0, v1, v2, v3, v4, v5, v6, v7, v8, v9, v10, some (.int z), some (.int x), v13, v14] st A Q := c_lcl i_192_125 rfl rfl
theorem q_192_127 : XX d 192 127 [v0, v1, v2, v3, v4, v5, v6, v7, some (.int x), v9, v10, v11, v12, v13, v14] st A Q ↔ XX d 192 129 [v0, v1, v2, v3, v4, v5, v6, v7, some (.int x), v9, v10, v11, v12, v13, v14] (.int x :: st) A Q := c_lcl i_192_127 rfl rfl
theorem q_192_129 : XX d 192 129 [v0, v1, v2, v3, v4, v5, v6, v7, v8, v9, v10, v11, v12, v13, v14] (.int x :: st) A Q ↔ if x = w 0 then XX d 192 132 [v0, v1, v2, v3, v4, v5, v6, v7, v8, v9, v10, v11, v12, v13, v14] st A Q else XX d 192 188 [v0, v1, v2, v3, v4, v5, v6, v7, v8, v9, v10, v11, v12, v13, v14] st A Q := z_ne i_192_129 rfl rfl rfl
theorem q_192_132 : XX d 192 132 [v0, v1, v2, v3, v4, v5, v6, v7, v8, v9, v10, v11, v12, v13, v14] st A Q ↔ XX d 192 133 [v0, v1, v2, v3, v4, v5, v6, v7, v8, v9, v10, v11, v12, v13, v14] (.int (w 0) :: st) A Q := c_stk i_192_132 rfl
theorem q_192_133 : XX d 192 133 [v0, v1, v2, v3, v4, v5, v6, v7, v8, v9, v10, v11, some (.int z), v13, v14] (.int x :: st) A Q ↔ XX d 192 135 [v0, v1, v2, v3, v4, v5, v6, v7, v8, v9, v10, v11, some (.int z), some (.int x), v14] st A Q := c_lcl i_192_133 rfl rfl
theorem q_192_135 : XX d 192 135 [v0, v1, v2, v3, v4, v5, v6, v7, v8, v9, v10, v11, v12, some (.int x), v14] st A Q ↔ XX d 192 137 [v0, v1, v2, v3, v4, v5, v6, v7, v8, v9, v10, v11, v12, some (.int x), v14] (.int x :: st) A Q := c_lcl i_192_135 rfl rfl
theorem q_192_137 : XX d 192 137 [v0, v1, v2, v3, v4, v5, v6, v7, v8, some (.int x), v10, v11, v12, v13, v14] st A Q ↔ XX d 192 139 [v0, v1, v2, v3, v4, v5, v6, v7, v8, some (.int x), v10, v11, v12, v13, v14] (.int x :: st) A Q := c_lcl i_192_137 rfl rfl
theorem q_192_139 : XX d 192 139 [v0, v1, v2, v3, v4, v5, v6, v7, v8, v9, v10, v11, v12, v13, v14] (.int y :: .int x :: st) A Q ↔ if x < y then XX d 192 142 [v0, v1, v2, v3, v4, v5, v6, v7, v8, v9, v10, v11, v12, v13, v14] st A Q else XX d 192 174 [v0, v1, v2, v3, v4, v5, v6, v7, v8, v9, v10, v11, v12, v13, v14] st A Q := b_ge i_192_139 rfl rfl rfl
theorem q_192_142 : XX d 192 142 [some (.ref a), v1, v2, v3, v4, v5, v6, v7, v8, v9, v10, v11, v12, v13, v14] st A Q ↔ XX d 192 143 [some (.ref a), v1, v2, v3, v4, v5, v6, v7, v8, v9, v10, v11, v12, v13, v14] (.ref a :: st) A Q := c_lcl i_192_142 rfl rfl
theorem q_192_143 : XX d 192 143 [v0, v1, v2, v3, v4, v5, v6, v7, v8, v9, v10, v11, v12, v13, v14] (.ref a :: st) (mk S I L R G) Q ↔ S a = some (.inr 12) ∧ XX d 192 146 [v0, v1, v2, v3, v4, v5, v6, v7, v8, v9, v10, v11, v12, v13, v14] (.ref (a + 6541) :: st) (mk S I L R G) Q := r_gf i_192_143 rfl (by decide) rfl
theorem q_192_146 : XX d 192 146 [some (.ref a), v1, v2, v3, v4, v5, v6, v7, v8, v9, v10, v11, v12, v13, v14] st A Q ↔ XX d 192 147 [some (.ref a), v1, v2, v3, v4, v5, v6, v7, v8, v9, v10, v11, v12, v13, v14] (.ref a :: st) A Q := c_lcl i_192_146 rfl rfl
theorem q_192_147 : XX d 192 147 [v0, v1, v2, v3, v4, v5, v6, v7, v8, v9, v10, v11, v12, v13, v14] (.ref a :: st) (mk S I L R G) Q ↔ S a = some (.inr 12) ∧ XX d 192 150 [v0, v1, v2, v3, v4, v5, v6, v7, v8, v9, v10, v11, v12, v13, v14] (.int (I a 16) :: st) (mk S I L R G) Q := r_gf i_192_147 rfl (by decide) rfl
theorem q_192_150 : XX d 192 150 [v0, v1, v2, v3, v4, v5, v6, v7, v8, v9, v10, v11, v12, some (.int x), v14] st A Q ↔ XX d 192 152 [v0, v1, v2, v3, v4, v5, v6, v7, v8, v9, v10, v11, v12, some (.int x), v14] (.int x :: st) A Q := c_lcl i_192_150 rfl rfl
theorem q_192_152 : XX d 192 152 [v0, v1, v2, v3, v4, v5, v6, v7, v8, v9, v10, v11, v12, v13, v14] (.int y :: .int x :: st) A Q ↔ XX d 192 153 [v0, v1, v2, v3, v4, v5, v6, v7, v8, v9, v10, v11, v12, v13, v14] (.int (x + y) :: st) A Q := c_stk i_192_152 rfl
theorem q_192_153 : XX d 192 153 [some (.ref a), v1, v2, v3, v4, v5, v6, v7, v8, v9, v10, v11, v12, v13, v14] st A Q ↔ XX d 192 154 [some (.ref a), v1, v2, v3, v4, v5, v6, v7, v8, v9, v10, v11, v12, v13, v14] (.ref a :: st) A Q := c_lcl i_192_153 rfl rfl
theorem q_192_154 : XX d 192 154 [v0, v1, v2, v3, v4, v5, v6, v7, v8, v9, v10, v11, v12, v13, v14] (.ref a :: st) (mk S I L R G) Q ↔ S a = some (.inr 12) ∧ XX d 192 157 [v0, v1, v2, v3, v4, v5, v6, v7, v8, v9, v10, v11, v12, v13, v14] (.ref (a + 843) :: st) (mk S I L R G) Q := r_gf i_192_154 rfl (by decide) rfl
theorem q_192_157 : XX d 192 157 [v0, some (.int x), v2, v3, v4, v5, v6, v7, v8, v9, v10, v11, v12, v13, v14] st A Q ↔ XX d 192 158 [v0, some (.int x), v2, v3, v4, v5, v6, v7, v8, v9, v10, v11, v12, v13, v14] (.int x :: st) A Q := c_lcl i_192_157 rfl rfl
theorem q_192_158 : XX d 192 158 [v0, v1, v2, v3, v4, v5, v6, v7, v8, v9, v10, v11, v12, v13, v14] (.int x :: .ref a :: st) (mk S I L R G) Q ↔ inA (S a) ok_q x ∧ XX d 192 159 [v0, v1, v2, v3, v4, v5, v6, v7, v8, v9, v10, v11, v12, v13, v14] (va_rf (R a (ix x)) :: st) (mk S I L R G) Q := r_aq i_192_158
theorem q_192_159 : XX d 192 159 [v0, v1, v2, some (.int x), v4, v5, v6, v7, v8, v9, v10, v11, v12, v13, v14] st A Q ↔ XX d 192 160 [v0, v1, v2, some (.int x), v4, v5, v6, v7, v8, v9, v10, v11, v12, v13, v14] (.int x :: st) A Q := c_lcl i_192_159 rfl rfl
theorem q_192_160 : XX d 192 160 [v0, v1, v2, v3, v4, v5, v6, v7, v8, v9, v10, v11, v12, v13, v14] (.int x :: .ref a :: st) (mk S I L R G) Q ↔ inA (S a) ok_q x ∧ XX d 192 161 [v0, v1, v2, v3, v4, v5, v6, v7, v8, v9, v10, v11, v12, v13, v14] (va_rf (R a (ix x)) :: st) (mk S I L R G) Q := r_aq i_192_160
theorem q_192_161 : XX d 192 161 [v0, v1, v2, v3, v4, v5, v6, some (.int x), v8, v9, v10, v11, v12, v13, v14] st A Q ↔ XX d 192 163 [v0, v1, v2, v3, v4, v5, v6, some (.int x), v8, v9, v10, v11, v12, v13, v14] (.int x :: st) A Q := c_lcl i_192_161 rfl rfl
theorem q_192_163 : XX d 192 163 [v0, v1, v2, v3, v4, v5, v6, v7, v8, v9, v10, v11, v12, v13, v14] (.int x :: .ref a :: st) (mk S I L R G) Q ↔ inA (S a) ok_q x ∧ XX d 192 164 [v0, v1, v2, v3, v4, v5, v6, v7, v8, v9, v10, v11, v12, v13, v14] (va_rf (R a (ix x)) :: st) (mk S I L R G) Q := r_aq i_192_163
theorem q_192_164 : XX d 192 164 [v0, v1, v2, v3, v4, v5, v6, v7, v8, v9, v10, v11, v12, some (.int x), v14] st A Q ↔ XX d 192 166 [v0, v1, v2, v3, v4, v5, v6, v7, v8, v9, v10, v11, v12, some (.int x), v14] (.int x :: st) A Q := c_lcl i_192_164 rfl rfl
theorem q_192_166 : XX d 192 166 [v0, v1, v2, v3, v4, v5, v6, v7, v8, v9, v10, v11, v12, v13, v14] (.int x :: .ref a :: st) (mk S I L R G) Q ↔ inA (S a) ok_b x ∧ XX d 192 167 [v0, v1, v2, v3, v4, v5, v6, v7, v8, v9, v10, v11, v12, v13, v14] (.int (I a (ix x)) :: st) (mk S I L R G) Q := r_ba i_192_166
theorem q_192_167 : XX d 192 167 [v0, v1, v2, v3, v4, v5, v6, v7, v8, v9, v10, v11, v12, v13, v14] (.int y :: .int x :: .ref a :: st) (mk S I L R G) Q ↔ bsP (S a) x y (fun y => XX d 192 168 [v0, v1, v2, v3, v4, v5, v6, v7, v8, v9, v10, v11, v12, v13, v14] st (mk S (wr I a (up (I a) (ix x) y)) L R G) Q) := r_bas i_192_167
theorem q_192_168 : XX d 192 168 [v0, v1, v2, v3, v4, v5, v6, v7, v8, v9, v10, v11, some (.int z), some (.int x), v14] st A Q ↔ XX d 192 171 [v0, v1, v2, v3, v4, v5, v6, v7, v8, v9, v10, v11, some (.int z), some (.int (x + w 1)), v14] st A Q := c_lcl i_192_168 rfl rfl
theorem q_192_171 : XX d 192 171 [v0, v1, v2, v3, v4, v5, v6, v7, v8, v9, v10, v11, v12, v13, v14] st A Q ↔ XX d 192 135 [v0, v1, v2, v3, v4, v5, v6, v7, v8, v9, v10, v11, v12, v13, v14] st A Q := c_go i_192_171 rfl rfl
theorem q_192_174 : XX d 192 174 [some (.ref a), v1, v2, v3, v4, v5, v6, v7, v8, v9, v10, v11, v12, v13, v14] st A Q ↔ XX d 192 175 [some (.ref a), v1, v2, v3, v4, v5, v6, v7, v8, v9, v10, v11, v12, v13, v14] (.ref a :: st) A Q := c_lcl i_192_174 rfl rfl
theorem q_192_175 : XX d 192 175 [v0, v1, v2, v3, v4, v5, v6, v7, v8, v9, v10, v11, v12, v13, v14] (.ref a1 :: st) A Q ↔ XX d 192 176 [v0, v1, v2, v3, v4, v5, v6, v7, v8, v9, v10, v11, v12, v13, v14] (.ref a1 :: .ref a1 :: st) A Q := c_stk i_192_175 rfl
theorem q_192_176 : XX d 192 176 [v0, v1, v2, v3, v4, v5, v6, v7, v8, v9, v10, v11, v12, v13, v14] (.ref a :: st) (mk S I L R G) Q ↔ S a = some (.inr 12) ∧ XX d 192 179 [v0, v1, v2, v3, v4, v5, v6, v7, v8, v9, v10, v11, v12, v13, v14] (.int (I a 16) :: st) (mk S I L R G) Q := r_gf i_192_176 rfl (by decide) rfl
theorem q_192_179 : XX d 192 179 [v0, v1, v2, v3, v4, v5, v6, v7, v8, some (.int x), v10, v11, v12, v13, v14] st A Q ↔ XX d 192 181 [v0, v1, v2, v3, v4, v5, v6, v7, v8, some (.int x), v10, v11, v12, v13, v14] (.int x :: st) A Q := c_lcl i_192_179 rfl rfl
theorem q_192_181 : XX d 192 181 [v0, v1, v2, v3, v4, v5, v6, v7, v8, v9, v10, v11, v12, v13, v14] (.int y :: .int x :: st) A Q ↔ XX d 192 182 [v0, v1, v2, v3, v4, v5, v6, v7, v8, v9, v10, v11, v12, v13, v14] (.int (x + y) :: st) A Q := c_stk i_192_181 rfl
theorem q_192_182 : XX d 192 182 [v0, v1, v2, v3, v4, v5, v6, v7, v8, v9, v10, v11, v12, v13, v14] (.int x :: .ref a :: st) (mk S I L R G) Q ↔ S a = some (.inr 12) ∧ XX d 192 185 [v0, v1, v2, v3, v4, v5, v6, v7, v8, v9, v10, v11, v12, v13, v14] st (mk S (wr I a (up (I a) 16 x)) L R G) Q := r_pf i_192_182 rfl (by decide) rfl rfl rfl
theorem q_192_185 : XX d 192 185 [v0, v1, v2, v3, v4, v5, v6, v7, v8, v9, v10, v11, v12, v13, v14] st A Q ↔ XX d 192 256 [v0, v1, v2, v3, v4, v5, v6, v7, v8, v9, v10, v11, v12, v13, v14] st A Q := c_go i_192_185 rfl rfl
theorem q_192_188 : XX d 192 188 [v0, v1, v2, v3, v4, v5, v6, v7, some (.int x), v9, v10, v11, v12, v13, v14] st A Q ↔ XX d 192 190 [v0, v1, v2, v3, v4, v5, v6, v7, some (.int x), v9, v10, v11, v12, v13, v14] (.int x :: st) A Q := c_lcl i_192_188 rfl rfl
theorem q_192_190 : XX d 192 190 [v0, v1, some (.int x), v3, v4, v5, v6, v7, v8, v9, v10, v11, v12, v13, v14] st A Q ↔ XX d 192 191 [v0, v1, some (.int x), v3, v4, v5, v6, v7, v8, v9, v10, v11, v12, v13, v14] (.int x :: st) A Q := c_lcl i_192_190 rfl rfl
theorem q_192_191 : XX d 192 191 [v0, v1, v2, v3, v4, v5, v6, v7, v8, some (.int x), v10, v11, v12, v13, v14] st A Q ↔ XX d 192 193 [v0, v1, v2, v3, v4, v5, v6, v7, v8, some (.int x), v10, v11, v12, v13, v14] (.int x :: st) A Q := c_lcl i_192_191 rfl rfl
theorem q_192_193 : XX (d + 1) 192 193 [v0, v1, v2, v3, v4, v5, v6, v7, v8, v9, v10, v11, v12, v13, v14] [.int x2, .int x1, .int x0] A Q ↔ XC d 190 [.int x0, .int x1, .int x2] A (XK (d + 1) 192 193 [v0, v1, v2, v3, v4, v5, v6, v7, v8, v9, v10, v11, v12, v13, v14] [] Q) := c_callS i_192_193 rfl rfl rfl rfl (Nat.le_of_ble_eq_true rfl) (Nat.le_of_ble_eq_true rfl)
theorem q_192_196 : XX d 192 196 [v0, v1, v2, v3, v4, v5, v6, v7, v8, v9, v10, v11, some (.int z), v13, v14] (.long lx :: st) A Q ↔ XX d 192 198 [v0, v1, v2, v3, v4, v5, v6, v7, v8, v9, v10, v11, some (.int z), some (.long lx), none] st A Q := c_lcl i_192_196 rfl rfl
theorem q_192_198 : XX d 192 198 [some (.ref a), v1, v2, v3, v4, v5, v6, v7, v8, v9, v10, v11, v12, v13, v14] st A Q ↔ XX d 192 199 [some (.ref a), v1, v2, v3, v4, v5, v6, v7, v8, v9, v10, v11, v12, v13, v14] (.ref a :: st) A Q := c_lcl i_192_198 rfl rfl
theorem q_192_199 : XX d 192 199 [v0, v1, v2, v3, v4, v5, v6, v7, v8, v9, v10, v11, v12, v13, v14] (.ref a1 :: st) A Q ↔ XX d 192 200 [v0, v1, v2, v3, v4, v5, v6, v7, v8, v9, v10, v11, v12, v13, v14] (.ref a1 :: .ref a1 :: st) A Q := c_stk i_192_199 rfl
theorem q_192_200 : XX d 192 200 [v0, v1, v2, v3, v4, v5, v6, v7, v8, v9, v10, v11, v12, v13, v14] (.ref a :: st) (mk S I L R G) Q ↔ S a = some (.inr 12) ∧ XX d 192 203 [v0, v1, v2, v3, v4, v5, v6, v7, v8, v9, v10, v11, v12, v13, v14] (.int (I a 18) :: st) (mk S I L R G) Q := r_gf i_192_200 rfl (by decide) rfl
theorem q_192_203 : XX d 192 203 [v0, v1, v2, v3, v4, v5, v6, v7, v8, v9, v10, v11, v12, some (.long lx), v14] st A Q ↔ XX d 192 205 [v0, v1, v2, v3, v4, v5, v6, v7, v8, v9, v10, v11, v12, some (.long lx), v14] (.long lx :: st) A Q := c_lcl i_192_203 rfl rfl
theorem q_192_205 : XX d 192 205 [v0, v1, v2, v3, v4, v5, v6, v7, v8, v9, v10, v11, v12, v13, v14] st A Q ↔ XX d 192 208 [v0, v1, v2, v3, v4, v5, v6, v7, v8, v9, v10, v11, v12, v13, v14] (.long (wl (-9223372036854775808)) :: st) A Q := r_ld2 i_192_205 rfl
theorem q_192_208 : XX d 192 208 [v0, v1, v2, v3, v4, v5, v6, v7, v8, v9, v10, v11, v12, v13, v14] (.long ly :: .long lx :: st) A Q ↔ XX d 192 209 [v0, v1, v2, v3, v4, v5, v6, v7, v8, v9, v10, v11, v12, v13, v14] (.int (lg_cmp lx ly) :: st) A Q := c_stk i_192_208 rfl
theorem q_192_209 : XX d 192 209 [v0, v1, v2, v3, v4, v5, v6, v7, v8, v9, v10, v11, v12, v13, v14] (.int x :: st) A Q ↔ if x = w 0 then XX d 192 212 [v0, v1, v2, v3, v4, v5, v6, v7, v8, v9, v10, v11, v12, v13, v14] st A Q else XX d 192 216 [v0, v1, v2, v3, v4, v5, v6, v7, v8, v9, v10, v11, v12, v13, v14] st A Q := z_ne i_192_209 rfl rfl rfl
theorem q_192_212 : XX d 192 212 [v0, v1, v2, v3, v4, v5, v6, v7, v8, v9, v10, v11, v12, v13, v14] st A Q ↔ XX d 192 213 [v0, v1, v2, v3, v4, v5, v6, v7, v8, v9, v10, v11, v12, v13, v14] (.int (w 0) :: st) A Q := c_stk i_192_212 rfl
theorem q_192_213 : XX d 192 213 [v0, v1, v2, v3, v4, v5, v6, v7, v8, v9, v10, v11, v12, v13, v14] st A Q ↔ XX d 192 217 [v0, v1, v2, v3, v4, v5, v6, v7, v8, v9, v10, v11, v12, v13, v14] st A Q := c_go i_192_213 rfl rfl
theorem q_192_216 : XX d 192 216 [v0, v1, v2, v3, v4, v5, v6, v7, v8, v9, v10, v11, v12, v13, v14] st A Q ↔ XX d 192 217 [v0, v1, v2, v3, v4, v5, v6, v7, v8, v9, v10, v11, v12, v13, v14] (.int (w 1) :: st) A Q := c_stk i_192_216 rfl
theorem q_192_217 : XX d 192 217 [v0, v1, v2, v3, v4, v5, v6, v7, v8, v9, v10, v11, v12, v13, v14] (.int y :: .int x :: st) A Q ↔ XX d 192 218 [v0, v1, v2, v3, v4, v5, v6, v7, v8, v9, v10, v11, v12, v13, v14] (.int (x + y) :: st) A Q := c_stk i_192_217 rfl
theorem q_192_218 : XX d 192 218 [v0, v1, v2, v3, v4, v5, v6, v7, v8, v9, v10, v11, v12, v13, v14] (.int x :: .ref a :: st) (mk S I L R G) Q ↔ S a = some (.inr 12) ∧ XX d 192 221 [v0, v1, v2, v3, v4, v5, v6, v7, v8, v9, v10, v11, v12, v13, v14] st (mk S (wr I a (up (I a) 18 x)) L R G) Q := r_pf i_192_218 rfl (by decide) rfl rfl rfl
theorem q_192_221 : XX d 192 221 [v0, v1, v2, v3, v4, v5, v6, v7, v8, v9, v10, v11, v12, some (.long lx), v14] st A Q ↔ XX d 192 223 [v0, v1, v2, v3, v4, v5, v6, v7, v8, v9, v10, v11, v12, some (.long lx), v14] (.long lx :: st) A Q := c_lcl i_192_221 rfl rfl
theorem q_192_223 : XX d 192 223 [v0, v1, v2, v3, v4, v5, v6, v7, v8, v9, v10, v11, v12, v13, v14] st A Q ↔ XX d 192 226 [v0, v1, v2, v3, v4, v5, v6, v7, v8, v9, v10, v11, v12, v13, v14] (.long (wl (-9223372036854775808)) :: st) A Q := r_ld2 i_192_223 rfl
theorem q_192_226 : XX d 192 226 [v0, v1, v2, v3, v4, v5, v6, v7, v8, v9, v10, v11, v12, v13, v14] (.long ly :: .long lx :: st) A Q ↔ XX d 192 227 [v0, v1, v2, v3, v4, v5, v6, v7, v8, v9, v10, v11, v12, v13, v14] (.int (lg_cmp lx ly) :: st) A Q := c_stk i_192_226 rfl
theorem q_192_227 : XX d 192 227 [v0, v1, v2, v3, v4, v5, v6, v7, v8, v9, v10, v11, v12, v13, v14] (.int x :: st) A Q ↔ if x = w 0 then XX d 192 256 [v0, v1, v2, v3, v4, v5, v6, v7, v8, v9, v10, v11, v12, v13, v14] st A Q else XX d 192 230 [v0, v1, v2, v3, v4, v5, v6, v7, v8, v9, v10, v11, v12, v13, v14] st A Q := z_eq i_192_227 rfl rfl rfl
theorem q_192_230 : XX d 192 230 [some (.ref a), v1, v2, v3, v4, v5, v6, v7, v8, v9, v10, v11, v12, v13, v14] st A Q ↔ XX d 192 231 [some (.ref a), v1, v2, v3, v4, v5, v6, v7, v8, v9, v10, v11, v12, v13, v14] (.ref a :: st) A Q := c_lcl i_192_230 rfl rfl
theorem q_192_231 : XX d 192 231 [v0, some (.int x), v2, v3, v4, v5, v6, v7, v8, v9, v10, v11, v12, v13, v14] st A Q ↔ XX d 192 232 [v0, some (.int x), v2, v3, v4, v5, v6, v7, v8, v9, v10, v11, v12, v13, v14] (.int x :: st) A Q := c_lcl i_192_231 rfl rfl
theorem q_192_232 : XX d 192 232 [v0, v1, v2, v3, v4, v5, v6, v7, v8, v9, v10, v11, v12, some (.long lx), v14] st A Q ↔ XX d 192 234 [v0, v1, v2, v3, v4, v5, v6, v7, v8, v9, v10, v11, v12, some (.long lx), v14] (.long lx :: st) A Q := c_lcl i_192_232 rfl rfl
theorem q_192_234 : XX (d + 1) 192 234 [v0, v1, v2, v3, v4, v5, v6, v7, v8, v9, v10, v11, v12, v13, v14] [.long l2, .int x1, .ref a0] (mk S I L R G) Q ↔ S a0 = some (.inr 12) ∧ XC d 191 [.ref a0, .int x1, .long l2] (mk S I L R G) (XK (d + 1) 192 234 [v0, v1, v2, v3, v4, v5, v6, v7, v8, v9, v10, v11, v12, v13, v14] [] Q) := c_callV i_192_234 rfl rfl rfl rfl (Nat.le_of_ble_eq_true rfl) (Nat.le_of_ble_eq_true rfl) rfl
theorem q_192_237 : XX d 192 237 [v0, v1, v2, v3, v4, v5, v6, v7, v8, v9, v10, v11, v12, v13, v14] (.int x :: st) A Q ↔ if x = w 0 then XX d 192 240 [v0, v1, v2, v3, v4, v5, v6, v7, v8, v9, v10, v11, v12, v13, v14] st A Q else XX d 192 256 [v0, v1, v2, v3, v4, v5, v6, v7, v8, v9, v10, v11, v12, v13, v14] st A Q := z_ne i_192_237 rfl rfl rfl
theorem q_192_240 : XX d 192 240 [some (.ref a), v1, v2, v3, v4, v5, v6, v7, v8, v9, v10, v11, v12, v13, v14] st A Q ↔ XX d 192 241 [some (.ref a), v1, v2, v3, v4, v5, v6, v7, v8, v9, v10, v11, v12, v13, v14] (.ref a :: st) A Q := c_lcl i_192_240 rfl rfl
theorem q_192_241 : XX d 192 241 [v0, v1, v2, v3, v4, some (.int x), v6, v7, v8, v9, v10, v11, v12, v13, v14] st A Q ↔ XX d 192 243 [v0, v1, v2, v3, v4, some (.int x), v6, v7, v8, v9, v10, v11, v12, v13, v14] (.int x :: st) A Q := c_lcl i_192_241 rfl rfl
theorem q_192_243 : XX d 192 243 [v0, v1, v2, v3, v4, v5, v6, v7, v8, v9, v10, v11, v12, v13, v14] (.int x :: .ref a :: st) (mk S I L R G) Q ↔ S a = some (.inr 12) ∧ XX d 192 246 [v0, v1, v2, v3, v4, v5, v6, v7, v8, v9, v10, v11, v12, v13, v14] st (mk S (wr I a (up (I a) 16 x)) L R G) Q := r_pf i_192_243 rfl (by decide) rfl rfl rfl
theorem q_192_246 : XX d 192 246 [some (.ref a), v1, v2, v3, v4, v5, v6, v7, v8, v9, v10, v11, v12, v13, v14] st A Q ↔ XX d 192 247 [some (.ref a), v1, v2, v3, v4, v5, v6, v7, v8, v9, v10, v11, v12, v13, v14] (.ref a :: st) A Q := c_lcl i_192_246 rfl rfl
theorem q_192_247 : XX d 192 247 [v0, v1, some (.int x), v3, v4, v5, v6, v7, v8, v9, v10, v11, v12, v13, v14] st A Q ↔ XX d 192 248 [v0, v1, some (.int x), v3, v4, v5, v6, v7, v8, v9, v10, v11, v12, v13, v14] (.int x :: st) A Q := c_lcl i_192_247 rfl rfl
theorem q_192_248 : XX d 192 248 [v0, v1, v2, v3, v4, v5, v6, v7, v8, v9, v10, v11, v12, v13, v14] st A Q ↔ XX d 192 249 [v0, v1, v2, v3, v4, v5, v6, v7, v8, v9, v10, v11, v12, v13, v14] (.int (w 0) :: st) A Q := c_stk i_192_248 rfl
theorem q_192_249 : XX d 192 249 [v0, v1, v2, some (.int x), v4, v5, v6, v7, v8, v9, v10, v11, v12, v13, v14] st A Q ↔ XX d 192 250 [v0, v1, v2, some (.int x), v4, v5, v6, v7, v8, v9, v10, v11, v12, v13, v14] (.int x :: st) A Q := c_lcl i_192_249 rfl rfl
theorem q_192_250 : XX d 192 250 [v0, v1, v2, v3, v4, v5, v6, some (.int x), v8, v9, v10, v11, v12, v13, v14] st A Q ↔ XX d 192 252 [v0, v1, v2, v3, v4, v5, v6, some (.int x), v8, v9, v10, v11, v12, v13, v14] (.int x :: st) A Q := c_lcl i_192_250 rfl rfl
theorem q_192_252 : XX (d + 1) 192 252 [v0, v1, v2, v3, v4, v5, v6, v7, v8, v9, v10, v11, v12, v13, v14] [.int x4, .int x3, .int x2, .int x1, .ref a0] (mk S I L R G) Q ↔ S a0 = some (.inr 12) ∧ XC d 188 [.ref a0, .int x1, .int x2, .int x3, .int x4] (mk S I L R G) (XK (d + 1) 192 252 [v0, v1, v2, v3, v4, v5, v6, v7, v8, v9, v10, v11, v12, v13, v14] [] Q) := c_callV i_192_252 rfl rfl rfl rfl (Nat.le_of_ble_eq_true rfl) (Nat.le_of_ble_eq_true rfl) rfl
theorem q_192_255 : XX d 192 255 [v0, v1, v2, v3, v4, v5, v6, v7, v8, v9, v10, v11, v12, v13, v14] [.int x] A Q ↔ (x = w 0 ∨ x = w 1) ∧ Q (.inl (some (.int x))) A := e_retZ i_192_255 rfl
theorem q_192_256 : XX d 192 256 [some (.ref a), v1, v2, v3, v4, v5, v6, v7, v8, v9, v10, v11, v12, v13, v14] st A Q ↔ XX d 192 257 [some (.ref a), v1, v2, v3, v4, v5, v6, v7, v8, v9, v10, v11, v12, v13, v14] (.ref a :: st) A Q := c_lcl i_192_256 rfl rfl
theorem q_192_257 : XX d 192 257 [v0, v1, v2, v3, v4, v5, v6, v7, v8, v9, v10, v11, v12, v13, v14] (.ref a :: st) (mk S I L R G) Q ↔ S a = some (.inr 12) ∧ XX d 192 260 [v0, v1, v2, v3, v4, v5, v6, v7, v8, v9, v10, v11, v12, v13, v14] (.int (I a 16) :: st) (mk S I L R G) Q := r_gf i_192_257 rfl (by decide) rfl
theorem q_192_260 : XX d 192 260 [v0, v1, v2, v3, v4, v5, v6, v7, v8, v9, v10, v11, some (.int x), v13, v14] st A Q ↔ XX d 192 262 [v0, v1, v2, v3, v4, v5, v6, v7, v8, v9, v10, v11, some (.int x), v13, v14] (.int x :: st) A Q := c_lcl i_192_260 rfl rfl
theorem q_192_262 : XX d 192 262 [v0, v1, v2, v3, v4, v5, v6, v7, v8, v9, v10, v11, v12, v13, v14] (.int y :: .int x :: st) A Q ↔ if x = y then XX d 192 265 [v0, v1, v2, v3, v4, v5, v6, v7, v8, v9, v10, v11, v12, v13, v14] st A Q else XX d 192 274 [v0, v1, v2, v3, v4, v5, v6, v7, v8, v9, v10, v11, v12, v13, v14] st A Q := b_ne i_192_262 rfl rfl rfl
theorem q_192_265 : XX d 192 265 [some (.ref a), v1, v2, v3, v4, v5, v6, v7, v8, v9, v10, v11, v12, v13, v14] st A Q ↔ XX d 192 266 [some (.ref a), v1, v2, v3, v4, v5, v6, v7, v8, v9, v10, v11, v12, v13, v14] (.ref a :: st) A Q := c_lcl i_192_265 rfl rfl
theorem q_192_266 : XX d 192 266 [v0, v1, v2, v3, v4, v5, v6, v7, v8, v9, some (.int x), v11, v12, v13, v14] st A Q ↔ XX d 192 268 [v0, v1, v2, v3, v4, v5, v6, v7, v8, v9, some (.int x), v11, v12, v13, v14] (.int x :: st) A Q := c_lcl i_192_266 rfl rfl
theorem q_192_268 : XX d 192 268 [v0, v1, v2, v3, v4, v5, v6, v7, v8, v9, v10, v11, v12, v13, v14] (.int x :: .ref a :: st) (mk S I L R G) Q ↔ S a = some (.inr 12) ∧ XX d 192 271 [v0, v1, v2, v3, v4, v5, v6, v7, v8, v9, v10, v11, v12, v13, v14] st (mk S (wr I a (up (I a) 16 x)) L R G) Q := r_pf i_192_268 rfl (by decide) rfl rfl rfl
theorem q_192_271 : XX d 192 271 [v0, v1, v2, v3, v4, v5, v6, v7, v8, v9, v10, v11, v12, v13, v14] st A Q ↔ XX d 192 277 [v0, v1, v2, v3, v4, v5, v6, v7, v8, v9, v10, v11, v12, v13, v14] st A Q := c_go i_192_271 rfl rfl
theorem q_192_274 : XX d 192 274 [v0, v1, v2, v3, v4, v5, v6, v7, v8, v9, v10, v11, v12, v13, v14] st A Q ↔ XX d 192 275 [v0, v1, v2, v3, v4, v5, v6, v7, v8, v9, v10, v11, v12, v13, v14] (.int (w 0) :: st) A Q := c_stk i_192_274 rfl
theorem q_192_275 : XX d 192 275 [v0, v1, v2, v3, v4, some (.int z), v6, v7, v8, v9, v10, v11, v12, v13, v14] (.int x :: st) A Q ↔ XX d 192 277 [v0, v1, v2, v3, v4, some (.int z), some (.int x), v7, v8, v9, v10, v11, v12, v13, v14] st A Q := c_lcl i_192_275 rfl rfl
theorem q_192_277 : XX d 192 277 [some (.ref a), v1, v2, v3, v4, v5, v6, v7, v8, v9, v10, v11, v12, v13, v14] st A Q ↔ XX d 192 278 [some (.ref a), v1, v2, v3, v4, v5, v6, v7, v8, v9, v10, v11, v12, v13, v14] (.ref a :: st) A Q := c_lcl i_192_277 rfl rfl
theorem q_192_278 : XX d 192 278 [v0, v1, v2, v3, v4, v5, v6, v7, v8, v9, v10, v11, v12, v13, v14] (.ref a :: st) (mk S I L R G) Q ↔ S a = some (.inr 12) ∧ XX d 192 281 [v0, v1, v2, v3, v4, v5, v6, v7, v8, v9, v10, v11, v12, v13, v14] (.int (I a 16) :: st) (mk S I L R G) Q := r_gf i_192_278 rfl (by decide) rfl
theorem q_192_281 : XX d 192 281 [v0, v1, v2, v3, v4, some (.int x), v6, v7, v8, v9, v10, v11, v12, v13, v14] st A Q ↔ XX d 192 283 [v0, v1, v2, v3, v4, some (.int x), v6, v7, v8, v9, v10, v11, v12, v13, v14] (.int x :: st) A Q := c_lcl i_192_281 rfl rfl
theorem q_192_283 : XX d 192 283 [v0, v1, v2, v3, v4, v5, v6, v7, v8, v9, v10, v11, v12, v13, v14] (.int y :: .int x :: st) A Q ↔ XX d 192 284 [v0, v1, v2, v3, v4, v5, v6, v7, v8, v9, v10, v11, v12, v13, v14] (.int (x - y) :: st) A Q := c_stk i_192_283 rfl
theorem q_192_284 : XX d 192 284 [v0, v1, v2, v3, v4, v5, v6, v7, v8, v9, v10, v11, v12, v13, v14] st A Q ↔ XX d 192 286 [v0, v1, v2, v3, v4, v5, v6, v7, v8, v9, v10, v11, v12, v13, v14] (.int (w 100) :: st) A Q := c_stk i_192_284 rfl
theorem q_192_286 : XX d 192 286 [v0, v1, v2, v3, v4, v5, v6, v7, v8, v9, v10, v11, v12, v13, v14] (.int y :: .int x :: st) A Q ↔ if y < x then XX d 192 289 [v0, v1, v2, v3, v4, v5, v6, v7, v8, v9, v10, v11, v12, v13, v14] st A Q else XX d 192 305 [v0, v1, v2, v3, v4, v5, v6, v7, v8, v9, v10, v11, v12, v13, v14] st A Q := b_le i_192_286 rfl rfl rfl
theorem q_192_289 : XX d 192 289 [some (.ref a), v1, v2, v3, v4, v5, v6, v7, v8, v9, v10, v11, v12, v13, v14] st A Q ↔ XX d 192 290 [some (.ref a), v1, v2, v3, v4, v5, v6, v7, v8, v9, v10, v11, v12, v13, v14] (.ref a :: st) A Q := c_lcl i_192_289 rfl rfl
theorem q_192_290 : XX d 192 290 [v0, v1, v2, v3, v4, some (.int x), v6, v7, v8, v9, v10, v11, v12, v13, v14] st A Q ↔ XX d 192 292 [v0, v1, v2, v3, v4, some (.int x), v6, v7, v8, v9, v10, v11, v12, v13, v14] (.int x :: st) A Q := c_lcl i_192_290 rfl rfl
theorem q_192_292 : XX d 192 292 [v0, v1, v2, v3, v4, v5, v6, v7, v8, v9, v10, v11, v12, v13, v14] (.int x :: .ref a :: st) (mk S I L R G) Q ↔ S a = some (.inr 12) ∧ XX d 192 295 [v0, v1, v2, v3, v4, v5, v6, v7, v8, v9, v10, v11, v12, v13, v14] st (mk S (wr I a (up (I a) 16 x)) L R G) Q := r_pf i_192_292 rfl (by decide) rfl rfl rfl
theorem q_192_295 : XX d 192 295 [some (.ref a), v1, v2, v3, v4, v5, v6, v7, v8, v9, v10, v11, v12, v13, v14] st A Q ↔ XX d 192 296 [some (.ref a), v1, v2, v3, v4, v5, v6, v7, v8, v9, v10, v11, v12, v13, v14] (.ref a :: st) A Q := c_lcl i_192_295 rfl rfl
theorem q_192_296 : XX d 192 296 [v0, v1, some (.int x), v3, v4, v5, v6, v7, v8, v9, v10, v11, v12, v13, v14] st A Q ↔ XX d 192 297 [v0, v1, some (.int x), v3, v4, v5, v6, v7, v8, v9, v10, v11, v12, v13, v14] (.int x :: st) A Q := c_lcl i_192_296 rfl rfl
theorem q_192_297 : XX d 192 297 [v0, v1, v2, v3, v4, v5, v6, v7, v8, v9, v10, v11, v12, v13, v14] st A Q ↔ XX d 192 298 [v0, v1, v2, v3, v4, v5, v6, v7, v8, v9, v10, v11, v12, v13, v14] (.int (w 5) :: st) A Q := c_stk i_192_297 rfl
theorem q_192_298 : XX d 192 298 [v0, v1, v2, some (.int x), v4, v5, v6, v7, v8, v9, v10, v11, v12, v13, v14] st A Q ↔ XX d 192 299 [v0, v1, v2, some (.int x), v4, v5, v6, v7, v8, v9, v10, v11, v12, v13, v14] (.int x :: st) A Q := c_lcl i_192_298 rfl rfl
theorem q_192_299 : XX d 192 299 [v0, v1, v2, v3, v4, v5, v6, some (.int x), v8, v9, v10, v11, v12, v13, v14] st A Q ↔ XX d 192 301 [v0, v1, v2, v3, v4, v5, v6, some (.int x), v8, v9, v10, v11, v12, v13, v14] (.int x :: st) A Q := c_lcl i_192_299 rfl rfl
theorem q_192_301 : XX (d + 1) 192 301 [v0, v1, v2, v3, v4, v5, v6, v7, v8, v9, v10, v11, v12, v13, v14] [.int x4, .int x3, .int x2, .int x1, .ref a0] (mk S I L R G) Q ↔ S a0 = some (.inr 12) ∧ XC d 188 [.ref a0, .int x1, .int x2, .int x3, .int x4] (mk S I L R G) (XK (d + 1) 192 301 [v0, v1, v2, v3, v4, v5, v6, v7, v8, v9, v10, v11, v12, v13, v14] [] Q) := c_callV i_192_301 rfl rfl rfl rfl (Nat.le_of_ble_eq_true rfl) (Nat.le_of_ble_eq_true rfl) rfl
theorem q_192_304 : XX d 192 304 [v0, v1, v2, v3, v4, v5, v6, v7, v8, v9, v10, v11, v12, v13, v14] [.int x] A Q ↔ (x = w 0 ∨ x = w 1) ∧ Q (.inl (some (.int x))) A := e_retZ i_192_304 rfl
theorem q_192_305 : XX d 192 305 [v0, v1, v2, v3, v4, v5, some (.int z), some (.int x), v8, v9, v10, v11, v12, v13, v14] st A Q ↔ XX d 192 308 [v0, v1, v2, v3, v4, v5, some (.int z), some (.int (x + w 1)), v8, v9, v10, v11, v12, v13, v14] st A Q := c_lcl i_192_305 rfl rfl
theorem q_192_308 : XX d 192 308 [v0, v1, v2, v3, v4, v5, v6, v7, v8, v9, v10, v11, v12, v13, v14] st A Q ↔ XX d 192 22 [v0, v1, v2, v3, v4, v5, v6, v7, v8, v9, v10, v11, v12, v13, v14] st A Q := c_go i_192_308 rfl rfl
theorem q_192_311 : XX d 192 311 [v0, v1, v2, v3, v4, v5, v6, v7, v8, v9, v10, v11, v12, v13, v14] st A Q ↔ XX d 192 312 [v0, v1, v2, v3, v4, v5, v6, v7, v8, v9, v10, v11, v12, v13, v14] (.int (w 1) :: st) A Q := c_stk i_192_311 rfl
theorem q_192_312 : XX d 192 312 [v0, v1, v2, v3, v4, v5, v6, v7, v8, v9, v10, v11, v12, v13, v14] [.int x] A Q ↔ (x = w 0 ∨ x = w 1) ∧ Q (.inl (some (.int x))) A := e_retZ i_192_312 rfl
theorem q_192_e : XC d 192 [.ref a0, .int x1, .int x2, .int x3] A Q ↔ XX d 192 0 [some (.ref a0), some (.int x1), some (.int x2), some (.int x3), none, none, none, none, none, none, none, none, none, none, none] [] A Q := Iff.rfl
theorem i_193_0 : t_ins 193 0 = some (.aload_n 0) := by decide +kernel
theorem i_193_1 : t_ins 193 1 = some (.iconst 0) := by decide +kernel
theorem i_193_2 : t_ins 193 2 = some (.putfield 281) := by decide +kernel
theorem i_193_5 : t_ins 193 5 = some (.aload_n 0) := by decide +kernel
theorem i_193_6 : t_ins 193 6 = some (.iconst 0) := by decide +kernel
theorem i_193_7 : t_ins 193 7 = some (.putfield 258) := by decide +kernel
theorem i_193_10 : t_ins 193 10 = some (.aload_n 0) := by decide +kernel
theorem i_193_11 : t_ins 193 11 = some (.iconst 0) := by decide +kernel
theorem i_193_12 : t_ins 193 12 = some (.putfield 272) := by decide +kernel
theorem i_193_15 : t_ins 193 15 = some (.aload_n 0) := by decide +kernel
theorem i_193_16 : t_ins 193 16 = some (.iconst 0) := by decide +kernel
theorem i_193_17 : t_ins 193 17 = some (.putfield 255) := by decide +kernel
theorem i_193_20 : t_ins 193 20 = some (.aload_n 0) := by decide +kernel
theorem i_193_21 : t_ins 193 21 = some (.iload_n 1) := by decide +kernel
theorem i_193_22 : t_ins 193 22 = some (.iload_n 2) := by decide +kernel
theorem i_193_23 : t_ins 193 23 = some (.i2l) := by decide +kernel
theorem i_193_24 : t_ins 193 24 = some (.invokevirtual 288) := by decide +kernel
theorem i_193_27 : t_ins 193 27 = some (.ireturn) := by decide +kernel
theorem q_193_0 : XX d 193 0 [some (.ref a), v1, v2] st A Q ↔ XX d 193 1 [some (.ref a), v1, v2] (.ref a :: st) A Q := c_lcl i_193_0 rfl rfl
theorem q_193_1 : XX d 193 1 [v0, v1, v2] st A Q ↔ XX d 193 2 [v0, v1, v2] (.int (w 0) :: st) A Q := c_stk i_193_1 rfl
theorem q_193_2 : XX d 193 2 [v0, v1, v2] (.int x :: .ref a :: st) (mk S I L R G) Q ↔ S a = some (.inr 12) ∧ XX d 193 5 [v0, v1, v2] st (mk S (wr I a (up (I a) 16 x)) L R G) Q := r_pf i_193_2 rfl (by decide) rfl rfl rfl
theorem q_193_5 : XX d 193 5 [some (.ref a), v1, v2] st A Q ↔ XX d 193 6 [some (.ref a), v1, v2] (.ref a :: st) A Q := c_lcl i_193_5 rfl rfl
theorem q_193_6 : XX d 193 6 [v0, v1, v2] st A Q ↔ XX d 193 7 [v0, v1, v2] (.int (w 0) :: st) A Q := c_stk i_193_6 rfl
theorem q_193_7 : XX d 193 7 [v0, v1, v2] (.int x :: .ref a :: st) (mk S I L R G) Q ↔ S a = some (.inr 12) ∧ XX d 193 10 [v0, v1, v2] st (mk S (wr I a (up (I a) 17 x)) L R G) Q := r_pf i_193_7 rfl (by decide) rfl rfl rfl
theorem q_193_10 : XX d 193 10 [some (.ref a), v1, v2] st A Q ↔ XX d 193 11 [some (.ref a), v1, v2] (.ref a :: st) A Q := c_lcl i_193_10 rfl rfl
theorem q_193_11 : XX d 193 11 [v0, v1, v2] st A Q ↔ XX d 193 12 [v0, v1, v2] (.int (w 0) :: st) A Q := c_stk i_193_11 rfl
theorem q_193_12 : XX d 193 12 [v0, v1, v2] (.int x :: .ref a :: st) (mk S I L R G) Q ↔ S a = some (.inr 12) ∧ XX d 193 15 [v0, v1, v2] st (mk S (wr I a (up (I a) 18 x)) L R G) Q := r_pf i_193_12 rfl (by decide) rfl rfl rfl
theorem q_193_15 : XX d 193 15 [some (.ref a), v1, v2] st A Q ↔ XX d 193 16 [some (.ref a), v1, v2] (.ref a :: st) A Q := c_lcl i_193_15 rfl rfl
theorem q_193_16 : XX d 193 16 [v0, v1, v2] st A Q ↔ XX d 193 17 [v0, v1, v2] (.int (w 0) :: st) A Q := c_stk i_193_16 rfl
theorem q_193_17 : XX d 193 17 [v0, v1, v2] (.int x :: .ref a :: st) (mk S I L R G) Q ↔ S a = some (.inr 12) ∧ XX d 193 20 [v0, v1, v2] st (mk S (wr I a (up (I a) 19 x)) L R G) Q := r_pf i_193_17 rfl (by decide) rfl rfl rfl
theorem q_193_20 : XX d 193 20 [some (.ref a), v1, v2] st A Q ↔ XX d 193 21 [some (.ref a), v1, v2] (.ref a :: st) A Q := c_lcl i_193_20 rfl rfl
theorem q_193_21 : XX d 193 21 [v0, some (.int x), v2] st A Q ↔ XX d 193 22 [v0, some (.int x), v2] (.int x :: st) A Q := c_lcl i_193_21 rfl rfl
theorem q_193_22 : XX d 193 22 [v0, v1, some (.int x)] st A Q ↔ XX d 193 23 [v0, v1, some (.int x)] (.int x :: st) A Q := c_lcl i_193_22 rfl rfl
theorem q_193_23 : XX d 193 23 [v0, v1, v2] (.int x :: st) A Q ↔ XX d 193 24 [v0, v1, v2] (.long x.toInt64 :: st) A Q := c_stk i_193_23 rfl
theorem q_193_24 : XX (d + 1) 193 24 [v0, v1, v2] [.long l2, .int x1, .ref a0] (mk S I L R G) Q ↔ S a0 = some (.inr 12) ∧ XC d 191 [.ref a0, .int x1, .long l2] (mk S I L R G) (XK (d + 1) 193 24 [v0, v1, v2] [] Q) := c_callV i_193_24 rfl rfl rfl rfl (Nat.le_of_ble_eq_true rfl) (Nat.le_of_ble_eq_true rfl) rfl
theorem q_193_27 : XX d 193 27 [v0, v1, v2] [.int x] A Q ↔ (x = w 0 ∨ x = w 1) ∧ Q (.inl (some (.int x))) A := e_retZ i_193_27 rfl
theorem q_193_e : XC d 193 [.ref a0, .int x1, .int x2] A Q ↔ XX d 193 0 [some (.ref a0), some (.int x1), some (.int x2)] [] A Q := Iff.rfl
theorem i_194_0 : t_ins 194 0 = some (.aload_n 0) := by decide +kernel
theorem i_194_1 : t_ins 194 1 = some (.getfield 51) := by decide +kernel
theorem i_194_4 : t_ins 194 4 = some (.iload_n 1) := by decide +kernel
theorem i_194_5 : t_ins 194 5 = some (.if_icmp .ne 4) := by decide +kernel
theorem i_194_8 : t_ins 194 8 = some (.return_) := by decide +kernel
theorem i_194_9 : t_ins 194 9 = some (.aload_n 0) := by decide +kernel
theorem i_194_10 : t_ins 194 10 = some (.iload_n 1) := by decide +kernel
theorem i_194_11 : t_ins 194 11 = some (.putfield 51) := by decide +kernel
theorem i_194_14 : t_ins 194 14 = some (.iconst 0) := by decide +kernel
theorem i_194_15 : t_ins 194 15 = some (.istore_n 2) := by decide +kernel
theorem i_194_16 : t_ins 194 16 = some (.iconst 0) := by decide +kernel
theorem i_194_17 : t_ins 194 17 = some (.istore_n 3) := by decide +kernel
theorem i_194_18 : t_ins 194 18 = some (.iload_n 3) := by decide +kernel
theorem i_194_19 : t_ins 194 19 = some (.aload_n 0) := by decide +kernel
theorem i_194_20 : t_ins 194 20 = some (.getfield 36) := by decide +kernel
theorem i_194_23 : t_ins 194 23 = some (.if_icmp .gt 98) := by decide +kernel
theorem i_194_26 : t_ins 194 26 = some (.aload_n 0) := by decide +kernel
theorem i_194_27 : t_ins 194 27 = some (.iload_n 1) := by decide +kernel
theorem i_194_28 : t_ins 194 28 = some (.iload_n 3) := by decide +kernel
theorem i_194_29 : t_ins 194 29 = some (.invokevirtual 292) := by decide +kernel
theorem i_194_32 : t_ins 194 32 = some (.istore 4) := by decide +kernel
theorem i_194_34 : t_ins 194 34 = some (.aload_n 0) := by decide +kernel
theorem i_194_35 : t_ins 194 35 = some (.getfield 58) := by decide +kernel
theorem i_194_38 : t_ins 194 38 = some (.iload_n 3) := by decide +kernel
theorem i_194_39 : t_ins 194 39 = some (.iload_n 2) := by decide +kernel
theorem i_194_40 : t_ins 194 40 = some (.iastore) := by decide +kernel
theorem i_194_41 : t_ins 194 41 = some (.aload_n 0) := by decide +kernel
theorem i_194_42 : t_ins 194 42 = some (.getfield 61) := by decide +kernel
theorem i_194_45 : t_ins 194 45 = some (.iload_n 3) := by decide +kernel
theorem i_194_46 : t_ins 194 46 = some (.iload 4) := by decide +kernel
theorem i_194_48 : t_ins 194 48 = some (.ifCond .eq 10) := by decide +kernel
theorem i_194_51 : t_ins 194 51 = some (.aload_n 0) := by decide +kernel
theorem i_194_52 : t_ins 194 52 = some (.getfield 281) := by decide +kernel
theorem i_194_55 : t_ins 194 55 = some (.goto 4) := by decide +kernel
theorem i_194_58 : t_ins 194 58 = some (.iconst (-1)) := by decide +kernel
theorem i_194_59 : t_ins 194 59 = some (.iastore) := by decide +kernel
theorem i_194_60 : t_ins 194 60 = some (.iconst 0) := by decide +kernel
theorem i_194_61 : t_ins 194 61 = some (.istore 5) := by decide +kernel
theorem i_194_63 : t_ins 194 63 = some (.iload 4) := by decide +kernel
theorem i_194_65 : t_ins 194 65 = some (.ifCond .eq 34) := by decide +kernel
theorem i_194_68 : t_ins 194 68 = some (.iload 5) := by decide +kernel
theorem i_194_70 : t_ins 194 70 = some (.aload_n 0) := by decide +kernel
theorem i_194_71 : t_ins 194 71 = some (.getfield 281) := by decide +kernel
theorem i_194_74 : t_ins 194 74 = some (.if_icmp .ge 25) := by decide +kernel
theorem i_194_77 : t_ins 194 77 = some (.aload_n 0) := by decide +kernel
theorem i_194_78 : t_ins 194 78 = some (.getfield 55) := by decide +kernel
theorem i_194_81 : t_ins 194 81 = some (.iload_n 2) := by decide +kernel
theorem i_194_82 : t_ins 194 82 = some (.iload 5) := by decide +kernel
theorem i_194_84 : t_ins 194 84 = some (.iadd) := by decide +kernel
theorem i_194_85 : t_ins 194 85 = some (.aload_n 0) := by decide +kernel
theorem i_194_86 : t_ins 194 86 = some (.getfield 39) := by decide +kernel
theorem i_194_89 : t_ins 194 89 = some (.iload 5) := by decide +kernel
theorem i_194_91 : t_ins 194 91 = some (.baload) := by decide +kernel
theorem i_194_92 : t_ins 194 92 = some (.bastore) := by decide +kernel
theorem i_194_93 : t_ins 194 93 = some (.iinc 5 1) := by decide +kernel
theorem i_194_96 : t_ins 194 96 = some (.goto (-33)) := by decide +kernel
theorem i_194_99 : t_ins 194 99 = some (.iload_n 2) := by decide +kernel
theorem i_194_100 : t_ins 194 100 = some (.iload 4) := by decide +kernel
theorem i_194_102 : t_ins 194 102 = some (.ifCond .eq 10) := by decide +kernel
theorem i_194_105 : t_ins 194 105 = some (.aload_n 0) := by decide +kernel
theorem i_194_106 : t_ins 194 106 = some (.getfield 281) := by decide +kernel
theorem i_194_109 : t_ins 194 109 = some (.goto 4) := by decide +kernel
theorem i_194_112 : t_ins 194 112 = some (.iconst 0) := by decide +kernel
theorem i_194_113 : t_ins 194 113 = some (.iadd) := by decide +kernel
theorem i_194_114 : t_ins 194 114 = some (.istore_n 2) := by decide +kernel
theorem i_194_115 : t_ins 194 115 = some (.iinc 3 1) := by decide +kernel
theorem i_194_118 : t_ins 194 118 = some (.goto (-100)) := by decide +kernel
theorem i_194_121 : t_ins 194 121 = some (.return_) := by decide +kernel
theorem q_194_0 : XX d 194 0 [some (.ref a), v1, v2, v3, v4, v5] st A Q ↔ XX d 194 1 [some (.ref a), v1, v2, v3, v4, v5] (.ref a :: st) A Q := c_lcl i_194_0 rfl rfl
theorem q_194_1 : XX d 194 1 [v0, v1, v2, v3, v4, v5] (.ref a :: st) (mk S I L R G) Q ↔ S a = some (.inr 12) ∧ XX d 194 4 [v0, v1, v2, v3, v4, v5] (.int (I a 22) :: st) (mk S I L R G) Q := r_gf i_194_1 rfl (by decide) rfl
theorem q_194_4 : XX d 194 4 [v0, some (.int x), v2, v3, v4, v5] st A Q ↔ XX d 194 5 [v0, some (.int x), v2, v3, v4, v5] (.int x :: st) A Q := c_lcl i_194_4 rfl rfl
theorem q_194_5 : XX d 194 5 [v0, v1, v2, v3, v4, v5] (.int y :: .int x :: st) A Q ↔ if x = y then XX d 194 8 [v0, v1, v2, v3, v4, v5] st A Q else XX d 194 9 [v0, v1, v2, v3, v4, v5] st A Q := b_ne i_194_5 rfl rfl rfl
theorem q_194_8 : XX d 194 8 [v0, v1, v2, v3, v4, v5] [] A Q ↔ Q (.inl none) A := e_retN i_194_8 rfl
theorem q_194_9 : XX d 194 9 [some (.ref a), v1, v2, v3, v4, v5] st A Q ↔ XX d 194 10 [some (.ref a), v1, v2, v3, v4, v5] (.ref a :: st) A Q := c_lcl i_194_9 rfl rfl
theorem q_194_10 : XX d 194 10 [v0, some (.int x), v2, v3, v4, v5] st A Q ↔ XX d 194 11 [v0, some (.int x), v2, v3, v4, v5] (.int x :: st) A Q := c_lcl i_194_10 rfl rfl
theorem q_194_11 : XX d 194 11 [v0, v1, v2, v3, v4, v5] (.int x :: .ref a :: st) (mk S I L R G) Q ↔ S a = some (.inr 12) ∧ XX d 194 14 [v0, v1, v2, v3, v4, v5] st (mk S (wr I a (up (I a) 22 x)) L R G) Q := r_pf i_194_11 rfl (by decide) rfl rfl rfl
theorem q_194_14 : XX d 194 14 [v0, v1, v2, v3, v4, v5] st A Q ↔ XX d 194 15 [v0, v1, v2, v3, v4, v5] (.int (w 0) :: st) A Q := c_stk i_194_14 rfl
theorem q_194_15 : XX d 194 15 [v0, some (.int z), v2, v3, v4, v5] (.int x :: st) A Q ↔ XX d 194 16 [v0, some (.int z), some (.int x), v3, v4, v5] st A Q := c_lcl i_194_15 rfl rfl
theorem q_194_16 : XX d 194 16 [v0, v1, v2, v3, v4, v5] st A Q ↔ XX d 194 17 [v0, v1, v2, v3, v4, v5] (.int (w 0) :: st) A Q := c_stk i_194_16 rfl
theorem q_194_17 : XX d 194 17 [v0, v1, some (.int z), v3, v4, v5] (.int x :: st) A Q ↔ XX d 194 18 [v0, v1, some (.int z), some (.int x), v4, v5] st A Q := c_lcl i_194_17 rfl rfl
theorem q_194_18 : XX d 194 18 [v0, v1, v2, some (.int x), v4, v5] st A Q ↔ XX d 194 19 [v0, v1, v2, some (.int x), v4, v5] (.int x :: st) A Q := c_lcl i_194_18 rfl rfl
theorem q_194_19 : XX d 194 19 [some (.ref a), v1, v2, v3, v4, v5] st A Q ↔ XX d 194 20 [some (.ref a), v1, v2, v3, v4, v5] (.ref a :: st) A Q := c_lcl i_194_19 rfl rfl
theorem q_194_20 : XX d 194 20 [v0, v1, v2, v3, v4, v5] (.ref a :: st) (mk S I L R G) Q ↔ S a = some (.inr 12) ∧ XX d 194 23 [v0, v1, v2, v3, v4, v5] (.int (I a 13) :: st) (mk S I L R G) Q := r_gf i_194_20 rfl (by decide) rfl
theorem q_194_23 : XX d 194 23 [v0, v1, v2, v3, v4, v5] (.int y :: .int x :: st) A Q ↔ if y < x then XX d 194 121 [v0, v1, v2, v3, v4, v5] st A Q else XX d 194 26 [v0, v1, v2, v3, v4, v5] st A Q := b_gt i_194_23 rfl rfl rfl
theorem q_194_26 : XX d 194 26 [some (.ref a), v1, v2, v3, v4, v5] st A Q ↔ XX d 194 27 [some (.ref a), v1, v2, v3, v4, v5] (.ref a :: st) A Q := c_lcl i_194_26 rfl rfl
theorem q_194_27 : XX d 194 27 [v0, some (.int x), v2, v3, v4, v5] st A Q ↔ XX d 194 28 [v0, some (.int x), v2, v3, v4, v5] (.int x :: st) A Q := c_lcl i_194_27 rfl rfl
theorem q_194_28 : XX d 194 28 [v0, v1, v2, some (.int x), v4, v5] st A Q ↔ XX d 194 29 [v0, v1, v2, some (.int x), v4, v5] (.int x :: st) A Q := c_lcl i_194_28 rfl rfl
theorem q_194_29 : XX (d + 1) 194 29 [v0, v1, v2, v3, v4, v5] [.int x2, .int x1, .ref a0] (mk S I L R G) Q ↔ S a0 = some (.inr 12) ∧ XC d 193 [.ref a0, .int x1, .int x2] (mk S I L R G) (XK (d + 1) 194 29 [v0, v1, v2, v3, v4, v5] [] Q) := c_callV i_194_29 rfl rfl rfl rfl (Nat.le_of_ble_eq_true rfl) (Nat.le_of_ble_eq_true rfl) rfl
theorem q_194_32 : XX d 194 32 [v0, v1, v2, some (.int z), v4, v5] (.int x :: st) A Q ↔ XX d 194 34 [v0, v1, v2, some (.int z), some (.int x), v5] st A Q := c_lcl i_194_32 rfl rfl
theorem q_194_34 : XX d 194 34 [some (.ref a), v1, v2, v3, v4, v5] st A Q ↔ XX d 194 35 [some (.ref a), v1, v2, v3, v4, v5] (.ref a :: st) A Q := c_lcl i_194_34 rfl rfl
theorem q_194_35 : XX d 194 35 [v0, v1, v2, v3, v4, v5] (.ref a :: st) (mk S I L R G) Q ↔ S a = some (.inr 12) ∧ XX d 194 38 [v0, v1, v2, v3, v4, v5] (.ref (a + 6578) :: st) (mk S I L R G) Q := r_gf i_194_35 rfl (by decide) rfl
theorem q_194_38 : XX d 194 38 [v0, v1, v2, some (.int x), v4, v5] st A Q ↔ XX d 194 39 [v0, v1, v2, some (.int x), v4, v5] (.int x :: st) A Q := c_lcl i_194_38 rfl rfl
theorem q_194_39 : XX d 194 39 [v0, v1, some (.int x), v3, v4, v5] st A Q ↔ XX d 194 40 [v0, v1, some (.int x), v3, v4, v5] (.int x :: st) A Q := c_lcl i_194_39 rfl rfl
theorem q_194_40 : XX d 194 40 [v0, v1, v2, v3, v4, v5] (.int y :: .int x :: .ref a :: st) (mk S I L R G) Q ↔ inA (S a) ok_0 x ∧ XX d 194 41 [v0, v1, v2, v3, v4, v5] st (mk S (wr I a (up (I a) (ix x) y)) L R G) Q := r_ias i_194_40
theorem q_194_41 : XX d 194 41 [some (.ref a), v1, v2, v3, v4, v5] st A Q ↔ XX d 194 42 [some (.ref a), v1, v2, v3, v4, v5] (.ref a :: st) A Q := c_lcl i_194_41 rfl rfl
theorem q_194_42 : XX d 194 42 [v0, v1, v2, v3, v4, v5] (.ref a :: st) (mk S I L R G) Q ↔ S a = some (.inr 12) ∧ XX d 194 45 [v0, v1, v2, v3, v4, v5] (.ref (a + 6579) :: st) (mk S I L R G) Q := r_gf i_194_42 rfl (by decide) rfl
theorem q_194_45 : XX d 194 45 [v0, v1, v2, some (.int x), v4, v5] st A Q ↔ XX d 194 46 [v0, v1, v2, some (.int x), v4, v5] (.int x :: st) A Q := c_lcl i_194_45 rfl rfl
theorem q_194_46 : XX d 194 46 [v0, v1, v2, v3, some (.int x), v5] st A Q ↔ XX d 194 48 [v0, v1, v2, v3, some (.int x), v5] (.int x :: st) A Q := c_lcl i_194_46 rfl rfl
theorem q_194_48 : XX d 194 48 [v0, v1, v2, v3, v4, v5] (.int x :: st) A Q ↔ if x = w 0 then XX d 194 58 [v0, v1, v2, v3, v4, v5] st A Q else XX d 194 51 [v0, v1, v2, v3, v4, v5] st A Q := z_eq i_194_48 rfl rfl rfl
theorem q_194_51 : XX d 194 51 [some (.ref a), v1, v2, v3, v4, v5] st A Q ↔ XX d 194 52 [some (.ref a), v1, v2, v3, v4, v5] (.ref a :: st) A Q := c_lcl i_194_51 rfl rfl
theorem q_194_52 : XX d 194 52 [v0, v1, v2, v3, v4, v5] (.ref a :: st) (mk S I L R G) Q ↔ S a = some (.inr 12) ∧ XX d 194 55 [v0, v1, v2, v3, v4, v5] (.int (I a 16) :: st) (mk S I L R G) Q := r_gf i_194_52 rfl (by decide) rfl
theorem q_194_55 : XX d 194 55 [v0, v1, v2, v3, v4, v5] st A Q ↔ XX d 194 59 [v0, v1, v2, v3, v4, v5] st A Q := c_go i_194_55 rfl rfl
theorem q_194_58 : XX d 194 58 [v0, v1, v2, v3, v4, v5] st A Q ↔ XX d 194 59 [v0, v1, v2, v3, v4, v5] (.int (w (-1)) :: st) A Q := c_stk i_194_58 rfl
theorem q_194_59 : XX d 194 59 [v0, v1, v2, v3, v4, v5] (.int y :: .int x :: .ref a :: st) (mk S I L R G) Q ↔ inA (S a) ok_0 x ∧ XX d 194 60 [v0, v1, v2, v3, v4, v5] st (mk S (wr I a (up (I a) (ix x) y)) L R G) Q := r_ias i_194_59
theorem q_194_60 : XX d 194 60 [v0, v1, v2, v3, v4, v5] st A Q ↔ XX d 194 61 [v0, v1, v2, v3, v4, v5] (.int (w 0) :: st) A Q := c_stk i_194_60 rfl
theorem q_194_61 : XX d 194 61 [v0, v1, v2, v3, some (.int z), v5] (.int x :: st) A Q ↔ XX d 194 63 [v0, v1, v2, v3, some (.int z), some (.int x)] st A Q := c_lcl i_194_61 rfl rfl
theorem q_194_63 : XX d 194 63 [v0, v1, v2, v3, some (.int x), v5] st A Q ↔ XX d 194 65 [v0, v1, v2, v3, some (.int x), v5] (.int x :: st) A Q := c_lcl i_194_63 rfl rfl
theorem q_194_65 : XX d 194 65 [v0, v1, v2, v3, v4, v5] (.int x :: st) A Q ↔ if x = w 0 then XX d 194 99 [v0, v1, v2, v3, v4, v5] st A Q else XX d 194 68 [v0, v1, v2, v3, v4, v5] st A Q := z_eq i_194_65 rfl rfl rfl
theorem q_194_68 : XX d 194 68 [v0, v1, v2, v3, v4, some (.int x)] st A Q ↔ XX d 194 70 [v0, v1, v2, v3, v4, some (.int x)] (.int x :: st) A Q := c_lcl i_194_68 rfl rfl
theorem q_194_70 : XX d 194 70 [some (.ref a), v1, v2, v3, v4, v5] st A Q ↔ XX d 194 71 [some (.ref a), v1, v2, v3, v4, v5] (.ref a :: st) A Q := c_lcl i_194_70 rfl rfl
theorem q_194_71 : XX d 194 71 [v0, v1, v2, v3, v4, v5] (.ref a :: st) (mk S I L R G) Q ↔ S a = some (.inr 12) ∧ XX d 194 74 [v0, v1, v2, v3, v4, v5] (.int (I a 16) :: st) (mk S I L R G) Q := r_gf i_194_71 rfl (by decide) rfl
theorem q_194_74 : XX d 194 74 [v0, v1, v2, v3, v4, v5] (.int y :: .int x :: st) A Q ↔ if x < y then XX d 194 77 [v0, v1, v2, v3, v4, v5] st A Q else XX d 194 99 [v0, v1, v2, v3, v4, v5] st A Q := b_ge i_194_74 rfl rfl rfl
theorem q_194_77 : XX d 194 77 [some (.ref a), v1, v2, v3, v4, v5] st A Q ↔ XX d 194 78 [some (.ref a), v1, v2, v3, v4, v5] (.ref a :: st) A Q := c_lcl i_194_77 rfl rfl
theorem q_194_78 : XX d 194 78 [v0, v1, v2, v3, v4, v5] (.ref a :: st) (mk S I L R G) Q ↔ S a = some (.inr 12) ∧ XX d 194 81 [v0, v1, v2, v3, v4, v5] (.ref (a + 6577) :: st) (mk S I L R G) Q := r_gf i_194_78 rfl (by decide) rfl
theorem q_194_81 : XX d 194 81 [v0, v1, some (.int x), v3, v4, v5] st A Q ↔ XX d 194 82 [v0, v1, some (.int x), v3, v4, v5] (.int x :: st) A Q := c_lcl i_194_81 rfl rfl
theorem q_194_82 : XX d 194 82 [v0, v1, v2, v3, v4, some (.int x)] st A Q ↔ XX d 194 84 [v0, v1, v2, v3, v4, some (.int x)] (.int x :: st) A Q := c_lcl i_194_82 rfl rfl
theorem q_194_84 : XX d 194 84 [v0, v1, v2, v3, v4, v5] (.int y :: .int x :: st) A Q ↔ XX d 194 85 [v0, v1, v2, v3, v4, v5] (.int (x + y) :: st) A Q := c_stk i_194_84 rfl
theorem q_194_85 : XX d 194 85 [some (.ref a), v1, v2, v3, v4, v5] st A Q ↔ XX d 194 86 [some (.ref a), v1, v2, v3, v4, v5] (.ref a :: st) A Q := c_lcl i_194_85 rfl rfl
theorem q_194_86 : XX d 194 86 [v0, v1, v2, v3, v4, v5] (.ref a :: st) (mk S I L R G) Q ↔ S a = some (.inr 12) ∧ XX d 194 89 [v0, v1, v2, v3, v4, v5] (.ref (a + 6541) :: st) (mk S I L R G) Q := r_gf i_194_86 rfl (by decide) rfl
theorem q_194_89 : XX d 194 89 [v0, v1, v2, v3, v4, some (.int x)] st A Q ↔ XX d 194 91 [v0, v1, v2, v3, v4, some (.int x)] (.int x :: st) A Q := c_lcl i_194_89 rfl rfl
theorem q_194_91 : XX d 194 91 [v0, v1, v2, v3, v4, v5] (.int x :: .ref a :: st) (mk S I L R G) Q ↔ inA (S a) ok_b x ∧ XX d 194 92 [v0, v1, v2, v3, v4, v5] (.int (I a (ix x)) :: st) (mk S I L R G) Q := r_ba i_194_91
theorem q_194_92 : XX d 194 92 [v0, v1, v2, v3, v4, v5] (.int y :: .int x :: .ref a :: st) (mk S I L R G) Q ↔ bsP (S a) x y (fun y => XX d 194 93 [v0, v1, v2, v3, v4, v5] st (mk S (wr I a (up (I a) (ix x) y)) L R G) Q) := r_bas i_194_92
theorem q_194_93 : XX d 194 93 [v0, v1, v2, v3, some (.int z), some (.int x)] st A Q ↔ XX d 194 96 [v0, v1, v2, v3, some (.int z), some (.int (x + w 1))] st A Q := c_lcl i_194_93 rfl rfl
theorem q_194_96 : XX d 194 96 [v0, v1, v2, v3, v4, v5] st A Q ↔ XX d 194 63 [v0, v1, v2, v3, v4, v5] st A Q := c_go i_194_96 rfl rfl
theorem q_194_99 : XX d 194 99 [v0, v1, some (.int x), v3, v4, v5] st A Q ↔ XX d 194 100 [v0, v1, some (.int x), v3, v4, v5] (.int x :: st) A Q := c_lcl i_194_99 rfl rfl
theorem q_194_100 : XX d 194 100 [v0, v1, v2, v3, some (.int x), v5] st A Q ↔ XX d 194 102 [v0, v1, v2, v3, some (.int x), v5] (.int x :: st) A Q := c_lcl i_194_100 rfl rfl
theorem q_194_102 : XX d 194 102 [v0, v1, v2, v3, v4, v5] (.int x :: st) A Q ↔ if x = w 0 then XX d 194 112 [v0, v1, v2, v3, v4, v5] st A Q else XX d 194 105 [v0, v1, v2, v3, v4, v5] st A Q := z_eq i_194_102 rfl rfl rfl
theorem q_194_105 : XX d 194 105 [some (.ref a), v1, v2, v3, v4, v5] st A Q ↔ XX d 194 106 [some (.ref a), v1, v2, v3, v4, v5] (.ref a :: st) A Q := c_lcl i_194_105 rfl rfl
theorem q_194_106 : XX d 194 106 [v0, v1, v2, v3, v4, v5] (.ref a :: st) (mk S I L R G) Q ↔ S a = some (.inr 12) ∧ XX d 194 109 [v0, v1, v2, v3, v4, v5] (.int (I a 16) :: st) (mk S I L R G) Q := r_gf i_194_106 rfl (by decide) rfl
theorem q_194_109 : XX d 194 109 [v0, v1, v2, v3, v4, v5] st A Q ↔ XX d 194 113 [v0, v1, v2, v3, v4, v5] st A Q := c_go i_194_109 rfl rfl
theorem q_194_112 : XX d 194 112 [v0, v1, v2, v3, v4, v5] st A Q ↔ XX d 194 113 [v0, v1, v2, v3, v4, v5] (.int (w 0) :: st) A Q := c_stk i_194_112 rfl
theorem q_194_113 : XX d 194 113 [v0, v1, v2, v3, v4, v5] (.int y :: .int x :: st) A Q ↔ XX d 194 114 [v0, v1, v2, v3, v4, v5] (.int (x + y) :: st) A Q := c_stk i_194_113 rfl
theorem q_194_114 : XX d 194 114 [v0, some (.int z), v2, v3, v4, v5] (.int x :: st) A Q ↔ XX d 194 115 [v0, some (.int z), some (.int x), v3, v4, v5] st A Q := c_lcl i_194_114 rfl rfl
theorem q_194_115 : XX d 194 115 [v0, v1, some (.int z), some (.int x), v4, v5] st A Q ↔ XX d 194 118 [v0, v1, some (.int z), some (.int (x + w 1)), v4, v5] st A Q := c_lcl i_194_115 rfl rfl
theorem q_194_118 : XX d 194 118 [v0, v1, v2, v3, v4, v5] st A Q ↔ XX d 194 18 [v0, v1, v2, v3, v4, v5] st A Q := c_go i_194_118 rfl rfl
theorem q_194_121 : XX d 194 121 [v0, v1, v2, v3, v4, v5] [] A Q ↔ Q (.inl none) A := e_retN i_194_121 rfl
theorem q_194_e : XC d 194 [.ref a0, .int x1] A Q ↔ XX d 194 0 [some (.ref a0), some (.int x1), none, none, none, none] [] A Q := Iff.rfl
theorem i_195_0 : t_ins 195 0 = some (.aload_n 0) := by decide +kernel
theorem i_195_1 : t_ins 195 1 = some (.getfield 61) := by decide +kernel
theorem i_195_4 : t_ins 195 4 = some (.iload_n 1) := by decide +kernel
theorem i_195_5 : t_ins 195 5 = some (.iaload) := by decide +kernel
theorem i_195_6 : t_ins 195 6 = some (.aload_n 0) := by decide +kernel
theorem i_195_7 : t_ins 195 7 = some (.getfield 61) := by decide +kernel
theorem i_195_10 : t_ins 195 10 = some (.iload_n 2) := by decide +kernel
theorem i_195_11 : t_ins 195 11 = some (.iaload) := by decide +kernel
theorem i_195_12 : t_ins 195 12 = some (.invokestatic 295) := by decide +kernel
theorem i_195_15 : t_ins 195 15 = some (.istore_n 3) := by decide +kernel
theorem i_195_16 : t_ins 195 16 = some (.iconst 0) := by decide +kernel
theorem i_195_17 : t_ins 195 17 = some (.istore 4) := by decide +kernel
theorem i_195_19 : t_ins 195 19 = some (.iload 4) := by decide +kernel
theorem i_195_21 : t_ins 195 21 = some (.iload_n 3) := by decide +kernel
theorem i_195_22 : t_ins 195 22 = some (.if_icmp .ge 70) := by decide +kernel
theorem i_195_25 : t_ins 195 25 = some (.aload_n 0) := by decide +kernel
theorem i_195_26 : t_ins 195 26 = some (.getfield 55) := by decide +kernel
theorem i_195_29 : t_ins 195 29 = some (.aload_n 0) := by decide +kernel
theorem i_195_30 : t_ins 195 30 = some (.getfield 58) := by decide +kernel
theorem i_195_33 : t_ins 195 33 = some (.iload_n 1) := by decide +kernel
theorem i_195_34 : t_ins 195 34 = some (.iaload) := by decide +kernel
theorem i_195_35 : t_ins 195 35 = some (.iload 4) := by decide +kernel
theorem i_195_37 : t_ins 195 37 = some (.iadd) := by decide +kernel
theorem i_195_38 : t_ins 195 38 = some (.baload) := by decide +kernel
theorem i_195_39 : t_ins 195 39 = some (.aload_n 0) := by decide +kernel
theorem i_195_40 : t_ins 195 40 = some (.getfield 55) := by decide +kernel
theorem i_195_43 : t_ins 195 43 = some (.aload_n 0) := by decide +kernel
theorem i_195_44 : t_ins 195 44 = some (.getfield 58) := by decide +kernel
theorem i_195_47 : t_ins 195 47 = some (.iload_n 2) := by decide +kernel
theorem i_195_48 : t_ins 195 48 = some (.iaload) := by decide +kernel
theorem i_195_49 : t_ins 195 49 = some (.iload 4) := by decide +kernel
theorem i_195_51 : t_ins 195 51 = some (.iadd) := by decide +kernel
theorem i_195_52 : t_ins 195 52 = some (.baload) := by decide +kernel
theorem i_195_53 : t_ins 195 53 = some (.if_icmp .eq 33) := by decide +kernel
theorem i_195_56 : t_ins 195 56 = some (.aload_n 0) := by decide +kernel
theorem i_195_57 : t_ins 195 57 = some (.getfield 55) := by decide +kernel
theorem i_195_60 : t_ins 195 60 = some (.aload_n 0) := by decide +kernel
theorem i_195_61 : t_ins 195 61 = some (.getfield 58) := by decide +kernel
theorem i_195_64 : t_ins 195 64 = some (.iload_n 1) := by decide +kernel
theorem i_195_65 : t_ins 195 65 = some (.iaload) := by decide +kernel
theorem i_195_66 : t_ins 195 66 = some (.iload 4) := by decide +kernel
theorem i_195_68 : t_ins 195 68 = some (.iadd) := by decide +kernel
theorem i_195_69 : t_ins 195 69 = some (.baload) := by decide +kernel
theorem i_195_70 : t_ins 195 70 = some (.aload_n 0) := by decide +kernel
theorem i_195_71 : t_ins 195 71 = some (.getfield 55) := by decide +kernel
theorem i_195_74 : t_ins 195 74 = some (.aload_n 0) := by decide +kernel
theorem i_195_75 : t_ins 195 75 = some (.getfield 58) := by decide +kernel
theorem i_195_78 : t_ins 195 78 = some (.iload_n 2) := by decide +kernel
theorem i_195_79 : t_ins 195 79 = some (.iaload) := by decide +kernel
theorem i_195_80 : t_ins 195 80 = some (.iload 4) := by decide +kernel
theorem i_195_82 : t_ins 195 82 = some (.iadd) := by decide +kernel
theorem i_195_83 : t_ins 195 83 = some (.baload) := by decide +kernel
theorem i_195_84 : t_ins 195 84 = some (.isub) := by decide +kernel
theorem i_195_85 : t_ins 195 85 = some (.ireturn) := by decide +kernel
theorem i_195_86 : t_ins 195 86 = some (.iinc 4 1) := by decide +kernel
theorem i_195_89 : t_ins 195 89 = some (.goto (-70)) := by decide +kernel
theorem i_195_92 : t_ins 195 92 = some (.aload_n 0) := by decide +kernel
theorem i_195_93 : t_ins 195 93 = some (.getfield 61) := by decide +kernel
theorem i_195_96 : t_ins 195 96 = some (.iload_n 1) := by decide +kernel
theorem i_195_97 : t_ins 195 97 = some (.iaload) := by decide +kernel
theorem i_195_98 : t_ins 195 98 = some (.aload_n 0) := by decide +kernel
theorem i_195_99 : t_ins 195 99 = some (.getfield 61) := by decide +kernel
theorem i_195_102 : t_ins 195 102 = some (.iload_n 2) := by decide +kernel
theorem i_195_103 : t_ins 195 103 = some (.iaload) := by decide +kernel
theorem i_195_104 : t_ins 195 104 = some (.isub) := by decide +kernel
theorem i_195_105 : t_ins 195 105 = some (.ireturn) := by decide +kernel
theorem q_195_0 : XX d 195 0 [some (.ref a), v1, v2, v3, v4] st A Q ↔ XX d 195 1 [some (.ref a), v1, v2, v3, v4] (.ref a :: st) A Q := c_lcl i_195_0 rfl rfl
theorem q_195_1 : XX d 195 1 [v0, v1, v2, v3, v4] (.ref a :: st) (mk S I L R G) Q ↔ S a = some (.inr 12) ∧ XX d 195 4 [v0, v1, v2, v3, v4] (.ref (a + 6579) :: st) (mk S I L R G) Q := r_gf i_195_1 rfl (by decide) rfl
theorem q_195_4 : XX d 195 4 [v0, some (.int x), v2, v3, v4] st A Q ↔ XX d 195 5 [v0, some (.int x), v2, v3, v4] (.int x :: st) A Q := c_lcl i_195_4 rfl rfl
theorem q_195_5 : XX d 195 5 [v0, v1, v2, v3, v4] (.int x :: .ref a :: st) (mk S I L R G) Q ↔ inA (S a) ok_i x ∧ XX d 195 6 [v0, v1, v2, v3, v4] (.int (I a (ix x)) :: st) (mk S I L R G) Q := r_ia i_195_5
theorem q_195_6 : XX d 195 6 [some (.ref a), v1, v2, v3, v4] st A Q ↔ XX d 195 7 [some (.ref a), v1, v2, v3, v4] (.ref a :: st) A Q := c_lcl i_195_6 rfl rfl
theorem q_195_7 : XX d 195 7 [v0, v1, v2, v3, v4] (.ref a :: st) (mk S I L R G) Q ↔ S a = some (.inr 12) ∧ XX d 195 10 [v0, v1, v2, v3, v4] (.ref (a + 6579) :: st) (mk S I L R G) Q := r_gf i_195_7 rfl (by decide) rfl
theorem q_195_10 : XX d 195 10 [v0, v1, some (.int x), v3, v4] st A Q ↔ XX d 195 11 [v0, v1, some (.int x), v3, v4] (.int x :: st) A Q := c_lcl i_195_10 rfl rfl
theorem q_195_11 : XX d 195 11 [v0, v1, v2, v3, v4] (.int x :: .ref a :: st) (mk S I L R G) Q ↔ inA (S a) ok_i x ∧ XX d 195 12 [v0, v1, v2, v3, v4] (.int (I a (ix x)) :: st) (mk S I L R G) Q := r_ia i_195_11
theorem q_195_12 : XX (d + 1) 195 12 [v0, v1, v2, v3, v4] [.int x1, .int x0] A Q ↔ XC d 156 [.int x0, .int x1] A (XK (d + 1) 195 12 [v0, v1, v2, v3, v4] [] Q) := c_callS i_195_12 rfl rfl rfl rfl (Nat.le_of_ble_eq_true rfl) (Nat.le_of_ble_eq_true rfl)
theorem q_195_15 : XX d 195 15 [v0, v1, some (.int z), v3, v4] (.int x :: st) A Q ↔ XX d 195 16 [v0, v1, some (.int z), some (.int x), v4] st A Q := c_lcl i_195_15 rfl rfl
theorem q_195_16 : XX d 195 16 [v0, v1, v2, v3, v4] st A Q ↔ XX d 195 17 [v0, v1, v2, v3, v4] (.int (w 0) :: st) A Q := c_stk i_195_16 rfl
theorem q_195_17 : XX d 195 17 [v0, v1, v2, some (.int z), v4] (.int x :: st) A Q ↔ XX d 195 19 [v0, v1, v2, some (.int z), some (.int x)] st A Q := c_lcl i_195_17 rfl rfl
theorem q_195_19 : XX d 195 19 [v0, v1, v2, v3, some (.int x)] st A Q ↔ XX d 195 21 [v0, v1, v2, v3, some (.int x)] (.int x :: st) A Q := c_lcl i_195_19 rfl rfl
theorem q_195_21 : XX d 195 21 [v0, v1, v2, some (.int x), v4] st A Q ↔ XX d 195 22 [v0, v1, v2, some (.int x), v4] (.int x :: st) A Q := c_lcl i_195_21 rfl rfl
theorem q_195_22 : XX d 195 22 [v0, v1, v2, v3, v4] (.int y :: .int x :: st) A Q ↔ if x < y then XX d 195 25 [v0, v1, v2, v3, v4] st A Q else XX d 195 92 [v0, v1, v2, v3, v4] st A Q := b_ge i_195_22 rfl rfl rfl
theorem q_195_25 : XX d 195 25 [some (.ref a), v1, v2, v3, v4] st A Q ↔ XX d 195 26 [some (.ref a), v1, v2, v3, v4] (.ref a :: st) A Q := c_lcl i_195_25 rfl rfl
theorem q_195_26 : XX d 195 26 [v0, v1, v2, v3, v4] (.ref a :: st) (mk S I L R G) Q ↔ S a = some (.inr 12) ∧ XX d 195 29 [v0, v1, v2, v3, v4] (.ref (a + 6577) :: st) (mk S I L R G) Q := r_gf i_195_26 rfl (by decide) rfl
theorem q_195_29 : XX d 195 29 [some (.ref a), v1, v2, v3, v4] st A Q ↔ XX d 195 30 [some (.ref a), v1, v2, v3, v4] (.ref a :: st) A Q := c_lcl i_195_29 rfl rfl
theorem q_195_30 : XX d 195 30 [v0, v1, v2, v3, v4] (.ref a :: st) (mk S I L R G) Q ↔ S a = some (.inr 12) ∧ XX d 195 33 [v0, v1, v2, v3, v4] (.ref (a + 6578) :: st) (mk S I L R G) Q := r_gf i_195_30 rfl (by decide) rfl
theorem q_195_33 : XX d 195 33 [v0, some (.int x), v2, v3, v4] st A Q ↔ XX d 195 34 [v0, some (.int x), v2, v3, v4] (.int x :: st) A Q := c_lcl i_195_33 rfl rfl
theorem q_195_34 : XX d 195 34 [v0, v1, v2, v3, v4] (.int x :: .ref a :: st) (mk S I L R G) Q ↔ inA (S a) ok_i x ∧ XX d 195 35 [v0, v1, v2, v3, v4] (.int (I a (ix x)) :: st) (mk S I L R G) Q := r_ia i_195_34
theorem q_195_35 : XX d 195 35 [v0, v1, v2, v3, some (.int x)] st A Q ↔ XX d 195 37 [v0, v1, v2, v3, some (.int x)] (.int x :: st) A Q := c_lcl i_195_35 rfl rfl
theorem q_195_37 : XX d 195 37 [v0, v1, v2, v3, v4] (.int y :: .int x :: st) A Q ↔ XX d 195 38 [v0, v1, v2, v3, v4] (.int (x + y) :: st) A Q := c_stk i_195_37 rfl
theorem q_195_38 : XX d 195 38 [v0, v1, v2, v3, v4] (.int x :: .ref a :: st) (mk S I L R G) Q ↔ inA (S a) ok_b x ∧ XX d 195 39 [v0, v1, v2, v3, v4] (.int (I a (ix x)) :: st) (mk S I L R G) Q := r_ba i_195_38
theorem q_195_39 : XX d 195 39 [some (.ref a), v1, v2, v3, v4] st A Q ↔ XX d 195 40 [some (.ref a), v1, v2, v3, v4] (.ref a :: st) A Q := c_lcl i_195_39 rfl rfl
theorem q_195_40 : XX d 195 40 [v0, v1, v2, v3, v4] (.ref a :: st) (mk S I L R G) Q ↔ S a = some (.inr 12) ∧ XX d 195 43 [v0, v1, v2, v3, v4] (.ref (a + 6577) :: st) (mk S I L R G) Q := r_gf i_195_40 rfl (by decide) rfl
theorem q_195_43 : XX d 195 43 [some (.ref a), v1, v2, v3, v4] st A Q ↔ XX d 195 44 [some (.ref a), v1, v2, v3, v4] (.ref a :: st) A Q := c_lcl i_195_43 rfl rfl
theorem q_195_44 : XX d 195 44 [v0, v1, v2, v3, v4] (.ref a :: st) (mk S I L R G) Q ↔ S a = some (.inr 12) ∧ XX d 195 47 [v0, v1, v2, v3, v4] (.ref (a + 6578) :: st) (mk S I L R G) Q := r_gf i_195_44 rfl (by decide) rfl
theorem q_195_47 : XX d 195 47 [v0, v1, some (.int x), v3, v4] st A Q ↔ XX d 195 48 [v0, v1, some (.int x), v3, v4] (.int x :: st) A Q := c_lcl i_195_47 rfl rfl
theorem q_195_48 : XX d 195 48 [v0, v1, v2, v3, v4] (.int x :: .ref a :: st) (mk S I L R G) Q ↔ inA (S a) ok_i x ∧ XX d 195 49 [v0, v1, v2, v3, v4] (.int (I a (ix x)) :: st) (mk S I L R G) Q := r_ia i_195_48
theorem q_195_49 : XX d 195 49 [v0, v1, v2, v3, some (.int x)] st A Q ↔ XX d 195 51 [v0, v1, v2, v3, some (.int x)] (.int x :: st) A Q := c_lcl i_195_49 rfl rfl
theorem q_195_51 : XX d 195 51 [v0, v1, v2, v3, v4] (.int y :: .int x :: st) A Q ↔ XX d 195 52 [v0, v1, v2, v3, v4] (.int (x + y) :: st) A Q := c_stk i_195_51 rfl
theorem q_195_52 : XX d 195 52 [v0, v1, v2, v3, v4] (.int x :: .ref a :: st) (mk S I L R G) Q ↔ inA (S a) ok_b x ∧ XX d 195 53 [v0, v1, v2, v3, v4] (.int (I a (ix x)) :: st) (mk S I L R G) Q := r_ba i_195_52
theorem q_195_53 : XX d 195 53 [v0, v1, v2, v3, v4] (.int y :: .int x :: st) A Q ↔ if x = y then XX d 195 86 [v0, v1, v2, v3, v4] st A Q else XX d 195 56 [v0, v1, v2, v3, v4] st A Q := b_eq i_195_53 rfl rfl rfl
theorem q_195_56 : XX d 195 56 [some (.ref a), v1, v2, v3, v4] st A Q ↔ XX d 195 57 [some (.ref a), v1, v2, v3, v4] (.ref a :: st) A Q := c_lcl i_195_56 rfl rfl
theorem q_195_57 : XX d 195 57 [v0, v1, v2, v3, v4] (.ref a :: st) (mk S I L R G) Q ↔ S a = some (.inr 12) ∧ XX d 195 60 [v0, v1, v2, v3, v4] (.ref (a + 6577) :: st) (mk S I L R G) Q := r_gf i_195_57 rfl (by decide) rfl
theorem q_195_60 : XX d 195 60 [some (.ref a), v1, v2, v3, v4] st A Q ↔ XX d 195 61 [some (.ref a), v1, v2, v3, v4] (.ref a :: st) A Q := c_lcl i_195_60 rfl rfl
theorem q_195_61 : XX d 195 61 [v0, v1, v2, v3, v4] (.ref a :: st) (mk S I L R G) Q ↔ S a = some (.inr 12) ∧ XX d 195 64 [v0, v1, v2, v3, v4] (.ref (a + 6578) :: st) (mk S I L R G) Q := r_gf i_195_61 rfl (by decide) rfl
theorem q_195_64 : XX d 195 64 [v0, some (.int x), v2, v3, v4] st A Q ↔ XX d 195 65 [v0, some (.int x), v2, v3, v4] (.int x :: st) A Q := c_lcl i_195_64 rfl rfl
theorem q_195_65 : XX d 195 65 [v0, v1, v2, v3, v4] (.int x :: .ref a :: st) (mk S I L R G) Q ↔ inA (S a) ok_i x ∧ XX d 195 66 [v0, v1, v2, v3, v4] (.int (I a (ix x)) :: st) (mk S I L R G) Q := r_ia i_195_65
theorem q_195_66 : XX d 195 66 [v0, v1, v2, v3, some (.int x)] st A Q ↔ XX d 195 68 [v0, v1, v2, v3, some (.int x)] (.int x :: st) A Q := c_lcl i_195_66 rfl rfl
theorem q_195_68 : XX d 195 68 [v0, v1, v2, v3, v4] (.int y :: .int x :: st) A Q ↔ XX d 195 69 [v0, v1, v2, v3, v4] (.int (x + y) :: st) A Q := c_stk i_195_68 rfl
theorem q_195_69 : XX d 195 69 [v0, v1, v2, v3, v4] (.int x :: .ref a :: st) (mk S I L R G) Q ↔ inA (S a) ok_b x ∧ XX d 195 70 [v0, v1, v2, v3, v4] (.int (I a (ix x)) :: st) (mk S I L R G) Q := r_ba i_195_69
theorem q_195_70 : XX d 195 70 [some (.ref a), v1, v2, v3, v4] st A Q ↔ XX d 195 71 [some (.ref a), v1, v2, v3, v4] (.ref a :: st) A Q := c_lcl i_195_70 rfl rfl
theorem q_195_71 : XX d 195 71 [v0, v1, v2, v3, v4] (.ref a :: st) (mk S I L R G) Q ↔ S a = some (.inr 12) ∧ XX d 195 74 [v0, v1, v2, v3, v4] (.ref (a + 6577) :: st) (mk S I L R G) Q := r_gf i_195_71 rfl (by decide) rfl
theorem q_195_74 : XX d 195 74 [some (.ref a), v1, v2, v3, v4] st A Q ↔ XX d 195 75 [some (.ref a), v1, v2, v3, v4] (.ref a :: st) A Q := c_lcl i_195_74 rfl rfl
theorem q_195_75 : XX d 195 75 [v0, v1, v2, v3, v4] (.ref a :: st) (mk S I L R G) Q ↔ S a = some (.inr 12) ∧ XX d 195 78 [v0, v1, v2, v3, v4] (.ref (a + 6578) :: st) (mk S I L R G) Q := r_gf i_195_75 rfl (by decide) rfl
theorem q_195_78 : XX d 195 78 [v0, v1, some (.int x), v3, v4] st A Q ↔ XX d 195 79 [v0, v1, some (.int x), v3, v4] (.int x :: st) A Q := c_lcl i_195_78 rfl rfl
theorem q_195_79 : XX d 195 79 [v0, v1, v2, v3, v4] (.int x :: .ref a :: st) (mk S I L R G) Q ↔ inA (S a) ok_i x ∧ XX d 195 80 [v0, v1, v2, v3, v4] (.int (I a (ix x)) :: st) (mk S I L R G) Q := r_ia i_195_79
theorem q_195_80 : XX d 195 80 [v0, v1, v2, v3, some (.int x)] st A Q ↔ XX d 195 82 [v0, v1, v2, v3, some (.int x)] (.int x :: st) A Q := c_lcl i_195_80 rfl rfl
theorem q_195_82 : XX d 195 82 [v0, v1, v2, v3, v4] (.int y :: .int x :: st) A Q ↔ XX d 195 83 [v0, v1, v2, v3, v4] (.int (x + y) :: st) A Q := c_stk i_195_82 rfl
theorem q_195_83 : XX d 195 83 [v0, v1, v2, v3, v4] (.int x :: .ref a :: st) (mk S I L R G) Q ↔ inA (S a) ok_b x ∧ XX d 195 84 [v0, v1, v2, v3, v4] (.int (I a (ix x)) :: st) (mk S I L R G) Q := r_ba i_195_83
theorem q_195_84 : XX d 195 84 [v0, v1, v2, v3, v4] (.int y :: .int x :: st) A Q ↔ XX d 195 85 [v0, v1, v2, v3, v4] (.int (x - y) :: st) A Q := c_stk i_195_84 rfl
theorem q_195_85 : XX d 195 85 [v0, v1, v2, v3, v4] [.int x] A Q ↔ Q (.inl (some (.int x))) A := e_retI i_195_85 rfl
theorem q_195_86 : XX d 195 86 [v0, v1, v2, some (.int z), some (.int x)] st A Q ↔ XX d 195 89 [v0, v1, v2, some (.int z), some (.int (x + w 1))] st A Q := c_lcl i_195_86 rfl rfl
theorem q_195_89 : XX d 195 89 [v0, v1, v2, v3, v4] st A Q ↔ XX d 195 19 [v0, v1, v2, v3, v4] st A Q := c_go i_195_89 rfl rfl
theorem q_195_92 : XX d 195 92 [some (.ref a), v1, v2, v3, v4] st A Q ↔ XX d 195 93 [some (.ref a), v1, v2, v3, v4] (.ref a :: st) A Q := c_lcl i_195_92 rfl rfl
theorem q_195_93 : XX d 195 93 [v0, v1, v2, v3, v4] (.ref a :: st) (mk S I L R G) Q ↔ S a = some (.inr 12) ∧ XX d 195 96 [v0, v1, v2, v3, v4] (.ref (a + 6579) :: st) (mk S I L R G) Q := r_gf i_195_93 rfl (by decide) rfl
theorem q_195_96 : XX d 195 96 [v0, some (.int x), v2, v3, v4] st A Q ↔ XX d 195 97 [v0, some (.int x), v2, v3, v4] (.int x :: st) A Q := c_lcl i_195_96 rfl rfl
theorem q_195_97 : XX d 195 97 [v0, v1, v2, v3, v4] (.int x :: .ref a :: st) (mk S I L R G) Q ↔ inA (S a) ok_i x ∧ XX d 195 98 [v0, v1, v2, v3, v4] (.int (I a (ix x)) :: st) (mk S I L R G) Q := r_ia i_195_97
theorem q_195_98 : XX d 195 98 [some (.ref a), v1, v2, v3, v4] st A Q ↔ XX d 195 99 [some (.ref a), v1, v2, v3, v4] (.ref a :: st) A Q := c_lcl i_195_98 rfl rfl
theorem q_195_99 : XX d 195 99 [v0, v1, v2, v3, v4] (.ref a :: st) (mk S I L R G) Q ↔ S a = some (.inr 12) ∧ XX d 195 102 [v0, v1, v2, v3, v4] (.ref (a + 6579) :: st) (mk S I L R G) Q := r_gf i_195_99 rfl (by decide) rfl
theorem q_195_102 : XX d 195 102 [v0, v1, some (.int x), v3, v4] st A Q ↔ XX d 195 103 [v0, v1, some (.int x), v3, v4] (.int x :: st) A Q := c_lcl i_195_102 rfl rfl
theorem q_195_103 : XX d 195 103 [v0, v1, v2, v3, v4] (.int x :: .ref a :: st) (mk S I L R G) Q ↔ inA (S a) ok_i x ∧ XX d 195 104 [v0, v1, v2, v3, v4] (.int (I a (ix x)) :: st) (mk S I L R G) Q := r_ia i_195_103
theorem q_195_104 : XX d 195 104 [v0, v1, v2, v3, v4] (.int y :: .int x :: st) A Q ↔ XX d 195 105 [v0, v1, v2, v3, v4] (.int (x - y) :: st) A Q := c_stk i_195_104 rfl
theorem q_195_105 : XX d 195 105 [v0, v1, v2, v3, v4] [.int x] A Q ↔ Q (.inl (some (.int x))) A := e_retI i_195_105 rfl
theorem q_195_e : XC d 195 [.ref a0, .int x1, .int x2] A Q ↔ XX d 195 0 [some (.ref a0), some (.int x1), some (.int x2), none, none] [] A Q := Iff.rfl
theorem i_196_0 : t_ins 196 0 = some (.aload_n 0) := by decide +kernel
theorem i_196_1 : t_ins 196 1 = some (.getfield 61) := by decide +kernel
theorem i_196_4 : t_ins 196 4 = some (.iload_n 1) := by decide +kernel
theorem i_196_5 : t_ins 196 5 = some (.iaload) := by decide +kernel
theorem i_196_6 : t_ins 196 6 = some (.iconst (-1)) := by decide +kernel
theorem i_196_7 : t_ins 196 7 = some (.if_icmp .eq 31) := by decide +kernel
theorem i_196_10 : t_ins 196 10 = some (.aload_n 0) := by decide +kernel
theorem i_196_11 : t_ins 196 11 = some (.getfield 61) := by decide +kernel
theorem i_196_14 : t_ins 196 14 = some (.iload_n 1) := by decide +kernel
theorem i_196_15 : t_ins 196 15 = some (.iaload) := by decide +kernel
theorem i_196_16 : t_ins 196 16 = some (.aload_n 0) := by decide +kernel
theorem i_196_17 : t_ins 196 17 = some (.getfield 61) := by decide +kernel
theorem i_196_20 : t_ins 196 20 = some (.iload_n 2) := by decide +kernel
theorem i_196_21 : t_ins 196 21 = some (.iaload) := by decide +kernel
theorem i_196_22 : t_ins 196 22 = some (.if_icmp .ne 16) := by decide +kernel
theorem i_196_25 : t_ins 196 25 = some (.aload_n 0) := by decide +kernel
theorem i_196_26 : t_ins 196 26 = some (.iload_n 1) := by decide +kernel
theorem i_196_27 : t_ins 196 27 = some (.iload_n 2) := by decide +kernel
theorem i_196_28 : t_ins 196 28 = some (.invokevirtual 298) := by decide +kernel
theorem i_196_31 : t_ins 196 31 = some (.ifCond .ne 7) := by decide +kernel
theorem i_196_34 : t_ins 196 34 = some (.iconst 1) := by decide +kernel
theorem i_196_35 : t_ins 196 35 = some (.goto 4) := by decide +kernel
theorem i_196_38 : t_ins 196 38 = some (.iconst 0) := by decide +kernel
theorem i_196_39 : t_ins 196 39 = some (.ireturn) := by decide +kernel
theorem q_196_0 : XX d 196 0 [some (.ref a), v1, v2] st A Q ↔ XX d 196 1 [some (.ref a), v1, v2] (.ref a :: st) A Q := c_lcl i_196_0 rfl rfl
theorem q_196_1 : XX d 196 1 [v0, v1, v2] (.ref a :: st) (mk S I L R G) Q ↔ S a = some (.inr 12) ∧ XX d 196 4 [v0, v1, v2] (.ref (a + 6579) :: st) (mk S I L R G) Q := r_gf i_196_1 rfl (by decide) rfl
theorem q_196_4 : XX d 196 4 [v0, some (.int x), v2] st A Q ↔ XX d 196 5 [v0, some (.int x), v2] (.int x :: st) A Q := c_lcl i_196_4 rfl rfl
theorem q_196_5 : XX d 196 5 [v0, v1, v2] (.int x :: .ref a :: st) (mk S I L R G) Q ↔ inA (S a) ok_i x ∧ XX d 196 6 [v0, v1, v2] (.int (I a (ix x)) :: st) (mk S I L R G) Q := r_ia i_196_5
theorem q_196_6 : XX d 196 6 [v0, v1, v2] st A Q ↔ XX d 196 7 [v0, v1, v2] (.int (w (-1)) :: st) A Q := c_stk i_196_6 rfl
theorem q_196_7 : XX d 196 7 [v0, v1, v2] (.int y :: .int x :: st) A Q ↔ if x = y then XX d 196 38 [v0, v1, v2] st A Q else XX d 196 10 [v0, v1, v2] st A Q := b_eq i_196_7 rfl rfl rfl
theorem q_196_10 : XX d 196 10 [some (.ref a), v1, v2] st A Q ↔ XX d 196 11 [some (.ref a), v1, v2] (.ref a :: st) A Q := c_lcl i_196_10 rfl rfl
theorem q_196_11 : XX d 196 11 [v0, v1, v2] (.ref a :: st) (mk S I L R G) Q ↔ S a = some (.inr 12) ∧ XX d 196 14 [v0, v1, v2] (.ref (a + 6579) :: st) (mk S I L R G) Q := r_gf i_196_11 rfl (by decide) rfl
theorem q_196_14 : XX d 196 14 [v0, some (.int x), v2] st A Q ↔ XX d 196 15 [v0, some (.int x), v2] (.int x :: st) A Q := c_lcl i_196_14 rfl rfl
theorem q_196_15 : XX d 196 15 [v0, v1, v2] (.int x :: .ref a :: st) (mk S I L R G) Q ↔ inA (S a) ok_i x ∧ XX d 196 16 [v0, v1, v2] (.int (I a (ix x)) :: st) (mk S I L R G) Q := r_ia i_196_15
theorem q_196_16 : XX d 196 16 [some (.ref a), v1, v2] st A Q ↔ XX d 196 17 [some (.ref a), v1, v2] (.ref a :: st) A Q := c_lcl i_196_16 rfl rfl
theorem q_196_17 : XX d 196 17 [v0, v1, v2] (.ref a :: st) (mk S I L R G) Q ↔ S a = some (.inr 12) ∧ XX d 196 20 [v0, v1, v2] (.ref (a + 6579) :: st) (mk S I L R G) Q := r_gf i_196_17 rfl (by decide) rfl
theorem q_196_20 : XX d 196 20 [v0, v1, some (.int x)] st A Q ↔ XX d 196 21 [v0, v1, some (.int x)] (.int x :: st) A Q := c_lcl i_196_20 rfl rfl
theorem q_196_21 : XX d 196 21 [v0, v1, v2] (.int x :: .ref a :: st) (mk S I L R G) Q ↔ inA (S a) ok_i x ∧ XX d 196 22 [v0, v1, v2] (.int (I a (ix x)) :: st) (mk S I L R G) Q := r_ia i_196_21
theorem q_196_22 : XX d 196 22 [v0, v1, v2] (.int y :: .int x :: st) A Q ↔ if x = y then XX d 196 25 [v0, v1, v2] st A Q else XX d 196 38 [v0, v1, v2] st A Q := b_ne i_196_22 rfl rfl rfl
theorem q_196_25 : XX d 196 25 [some (.ref a), v1, v2] st A Q ↔ XX d 196 26 [some (.ref a), v1, v2] (.ref a :: st) A Q := c_lcl i_196_25 rfl rfl
theorem q_196_26 : XX d 196 26 [v0, some (.int x), v2] st A Q ↔ XX d 196 27 [v0, some (.int x), v2] (.int x :: st) A Q := c_lcl i_196_26 rfl rfl
theorem q_196_27 : XX d 196 27 [v0, v1, some (.int x)] st A Q ↔ XX d 196 28 [v0, v1, some (.int x)] (.int x :: st) A Q := c_lcl i_196_27 rfl rfl
theorem q_196_28 : XX (d + 1) 196 28 [v0, v1, v2] [.int x2, .int x1, .ref a0] (mk S I L R G) Q ↔ S a0 = some (.inr 12) ∧ XC d 195 [.ref a0, .int x1, .int x2] (mk S I L R G) (XK (d + 1) 196 28 [v0, v1, v2] [] Q) := c_callV i_196_28 rfl rfl rfl rfl (Nat.le_of_ble_eq_true rfl) (Nat.le_of_ble_eq_true rfl) rfl
theorem q_196_31 : XX d 196 31 [v0, v1, v2] (.int x :: st) A Q ↔ if x = w 0 then XX d 196 34 [v0, v1, v2] st A Q else XX d 196 38 [v0, v1, v2] st A Q := z_ne i_196_31 rfl rfl rfl
theorem q_196_34 : XX d 196 34 [v0, v1, v2] st A Q ↔ XX d 196 35 [v0, v1, v2] (.int (w 1) :: st) A Q := c_stk i_196_34 rfl
theorem q_196_35 : XX d 196 35 [v0, v1, v2] st A Q ↔ XX d 196 39 [v0, v1, v2] st A Q := c_go i_196_35 rfl rfl
theorem q_196_38 : XX d 196 38 [v0, v1, v2] st A Q ↔ XX d 196 39 [v0, v1, v2] (.int (w 0) :: st) A Q := c_stk i_196_38 rfl
theorem q_196_39 : XX d 196 39 [v0, v1, v2] [.int x] A Q ↔ (x = w 0 ∨ x = w 1) ∧ Q (.inl (some (.int x))) A := e_retZ i_196_39 rfl
theorem q_196_e : XC d 196 [.ref a0, .int x1, .int x2] A Q ↔ XX d 196 0 [some (.ref a0), some (.int x1), some (.int x2)] [] A Q := Iff.rfl
theorem i_197_0 : t_ins 197 0 = some (.aload_n 0) := by decide +kernel
theorem i_197_1 : t_ins 197 1 = some (.iload_n 1) := by decide +kernel
theorem i_197_2 : t_ins 197 2 = some (.invokevirtual 301) := by decide +kernel
theorem i_197_5 : t_ins 197 5 = some (.iconst 0) := by decide +kernel
theorem i_197_6 : t_ins 197 6 = some (.istore_n 2) := by decide +kernel
theorem i_197_7 : t_ins 197 7 = some (.iload_n 2) := by decide +kernel
theorem i_197_8 : t_ins 197 8 = some (.aload_n 0) := by decide +kernel
theorem i_197_9 : t_ins 197 9 = some (.getfield 64) := by decide +kernel
theorem i_197_12 : t_ins 197 12 = some (.arraylength) := by decide +kernel
theorem i_197_13 : t_ins 197 13 = some (.if_icmp .ge 21) := by decide +kernel
theorem i_197_16 : t_ins 197 16 = some (.aload_n 0) := by decide +kernel
theorem i_197_17 : t_ins 197 17 = some (.getfield 64) := by decide +kernel
theorem i_197_20 : t_ins 197 20 = some (.iload_n 2) := by decide +kernel
theorem i_197_21 : t_ins 197 21 = some (.aload_n 0) := by decide +kernel
theorem i_197_22 : t_ins 197 22 = some (.getfield 55) := by decide +kernel
theorem i_197_25 : t_ins 197 25 = some (.iload_n 2) := by decide +kernel
theorem i_197_26 : t_ins 197 26 = some (.baload) := by decide +kernel
theorem i_197_27 : t_ins 197 27 = some (.bastore) := by decide +kernel
theorem i_197_28 : t_ins 197 28 = some (.iinc 2 1) := by decide +kernel
theorem i_197_31 : t_ins 197 31 = some (.goto (-24)) := by decide +kernel
theorem i_197_34 : t_ins 197 34 = some (.iconst 0) := by decide +kernel
theorem i_197_35 : t_ins 197 35 = some (.istore_n 2) := by decide +kernel
theorem i_197_36 : t_ins 197 36 = some (.iload_n 2) := by decide +kernel
theorem i_197_37 : t_ins 197 37 = some (.aload_n 0) := by decide +kernel
theorem i_197_38 : t_ins 197 38 = some (.getfield 36) := by decide +kernel
theorem i_197_41 : t_ins 197 41 = some (.if_icmp .gt 33) := by decide +kernel
theorem i_197_44 : t_ins 197 44 = some (.aload_n 0) := by decide +kernel
theorem i_197_45 : t_ins 197 45 = some (.getfield 67) := by decide +kernel
theorem i_197_48 : t_ins 197 48 = some (.iload_n 2) := by decide +kernel
theorem i_197_49 : t_ins 197 49 = some (.aload_n 0) := by decide +kernel
theorem i_197_50 : t_ins 197 50 = some (.getfield 58) := by decide +kernel
theorem i_197_53 : t_ins 197 53 = some (.iload_n 2) := by decide +kernel
theorem i_197_54 : t_ins 197 54 = some (.iaload) := by decide +kernel
theorem i_197_55 : t_ins 197 55 = some (.iastore) := by decide +kernel
theorem i_197_56 : t_ins 197 56 = some (.aload_n 0) := by decide +kernel
theorem i_197_57 : t_ins 197 57 = some (.getfield 70) := by decide +kernel
theorem i_197_60 : t_ins 197 60 = some (.iload_n 2) := by decide +kernel
theorem i_197_61 : t_ins 197 61 = some (.aload_n 0) := by decide +kernel
theorem i_197_62 : t_ins 197 62 = some (.getfield 61) := by decide +kernel
theorem i_197_65 : t_ins 197 65 = some (.iload_n 2) := by decide +kernel
theorem i_197_66 : t_ins 197 66 = some (.iaload) := by decide +kernel
theorem i_197_67 : t_ins 197 67 = some (.iastore) := by decide +kernel
theorem i_197_68 : t_ins 197 68 = some (.iinc 2 1) := by decide +kernel
theorem i_197_71 : t_ins 197 71 = some (.goto (-35)) := by decide +kernel
theorem i_197_74 : t_ins 197 74 = some (.return_) := by decide +kernel
theorem q_197_0 : XX d 197 0 [some (.ref a), v1, v2] st A Q ↔ XX d 197 1 [some (.ref a), v1, v2] (.ref a :: st) A Q := c_lcl i_197_0 rfl rfl
theorem q_197_1 : XX d 197 1 [v0, some (.int x), v2] st A Q ↔ XX d 197 2 [v0, some (.int x), v2] (.int x :: st) A Q := c_lcl i_197_1 rfl rfl
theorem q_197_2 : XX (d + 1) 197 2 [v0, v1, v2] [.int x1, .ref a0] (mk S I L R G) Q ↔ S a0 = some (.inr 12) ∧ XC d 194 [.ref a0, .int x1] (mk S I L R G) (XK (d + 1) 197 2 [v0, v1, v2] [] Q) := c_callV i_197_2 rfl rfl rfl rfl (Nat.le_of_ble_eq_true rfl) (Nat.le_of_ble_eq_true rfl) rfl
theorem q_197_5 : XX d 197 5 [v0, v1, v2] st A Q ↔ XX d 197 6 [v0, v1, v2] (.int (w 0) :: st) A Q := c_stk i_197_5 rfl
theorem q_197_6 : XX d 197 6 [v0, some (.int z), v2] (.int x :: st) A Q ↔ XX d 197 7 [v0, some (.int z), some (.int x)] st A Q := c_lcl i_197_6 rfl rfl
theorem q_197_7 : XX d 197 7 [v0, v1, some (.int x)] st A Q ↔ XX d 197 8 [v0, v1, some (.int x)] (.int x :: st) A Q := c_lcl i_197_7 rfl rfl
theorem q_197_8 : XX d 197 8 [some (.ref a), v1, v2] st A Q ↔ XX d 197 9 [some (.ref a), v1, v2] (.ref a :: st) A Q := c_lcl i_197_8 rfl rfl
theorem q_197_9 : XX d 197 9 [v0, v1, v2] (.ref a :: st) (mk S I L R G) Q ↔ S a = some (.inr 12) ∧ XX d 197 12 [v0, v1, v2] (.ref (a + 6580) :: st) (mk S I L R G) Q := r_gf i_197_9 rfl (by decide) rfl
theorem q_197_12 : XX d 197 12 [v0, v1, v2] (.ref a :: st) (mk S I L R G) Q ↔ alP (S a) (fun n => XX d 197 13 [v0, v1, v2] (.int n :: st) (mk S I L R G) Q) := r_al i_197_12
theorem q_197_13 : XX d 197 13 [v0, v1, v2] (.int y :: .int x :: st) A Q ↔ if x < y then XX d 197 16 [v0, v1, v2] st A Q else XX d 197 34 [v0, v1, v2] st A Q := b_ge i_197_13 rfl rfl rfl
theorem q_197_16 : XX d 197 16 [some (.ref a), v1, v2] st A Q ↔ XX d 197 17 [some (.ref a), v1, v2] (.ref a :: st) A Q := c_lcl i_197_16 rfl rfl
theorem q_197_17 : XX d 197 17 [v0, v1, v2] (.ref a :: st) (mk S I L R G) Q ↔ S a = some (.inr 12) ∧ XX d 197 20 [v0, v1, v2] (.ref (a + 6580) :: st) (mk S I L R G) Q := r_gf i_197_17 rfl (by decide) rfl
theorem q_197_20 : XX d 197 20 [v0, v1, some (.int x)] st A Q ↔ XX d 197 21 [v0, v1, some (.int x)] (.int x :: st) A Q := c_lcl i_197_20 rfl rfl
theorem q_197_21 : XX d 197 21 [some (.ref a), v1, v2] st A Q ↔ XX d 197 22 [some (.ref a), v1, v2] (.ref a :: st) A Q := c_lcl i_197_21 rfl rfl
theorem q_197_22 : XX d 197 22 [v0, v1, v2] (.ref a :: st) (mk S I L R G) Q ↔ S a = some (.inr 12) ∧ XX d 197 25 [v0, v1, v2] (.ref (a + 6577) :: st) (mk S I L R G) Q := r_gf i_197_22 rfl (by decide) rfl
theorem q_197_25 : XX d 197 25 [v0, v1, some (.int x)] st A Q ↔ XX d 197 26 [v0, v1, some (.int x)] (.int x :: st) A Q := c_lcl i_197_25 rfl rfl
theorem q_197_26 : XX d 197 26 [v0, v1, v2] (.int x :: .ref a :: st) (mk S I L R G) Q ↔ inA (S a) ok_b x ∧ XX d 197 27 [v0, v1, v2] (.int (I a (ix x)) :: st) (mk S I L R G) Q := r_ba i_197_26
theorem q_197_27 : XX d 197 27 [v0, v1, v2] (.int y :: .int x :: .ref a :: st) (mk S I L R G) Q ↔ bsP (S a) x y (fun y => XX d 197 28 [v0, v1, v2] st (mk S (wr I a (up (I a) (ix x) y)) L R G) Q) := r_bas i_197_27
theorem q_197_28 : XX d 197 28 [v0, some (.int z), some (.int x)] st A Q ↔ XX d 197 31 [v0, some (.int z), some (.int (x + w 1))] st A Q := c_lcl i_197_28 rfl rfl
theorem q_197_31 : XX d 197 31 [v0, v1, v2] st A Q ↔ XX d 197 7 [v0, v1, v2] st A Q := c_go i_197_31 rfl rfl
theorem q_197_34 : XX d 197 34 [v0, v1, v2] st A Q ↔ XX d 197 35 [v0, v1, v2] (.int (w 0) :: st) A Q := c_stk i_197_34 rfl
theorem q_197_35 : XX d 197 35 [v0, some (.int z), v2] (.int x :: st) A Q ↔ XX d 197 36 [v0, some (.int z), some (.int x)] st A Q := c_lcl i_197_35 rfl rfl
theorem q_197_36 : XX d 197 36 [v0, v1, some (.int x)] st A Q ↔ XX d 197 37 [v0, v1, some (.int x)] (.int x :: st) A Q := c_lcl i_197_36 rfl rfl
theorem q_197_37 : XX d 197 37 [some (.ref a), v1, v2] st A Q ↔ XX d 197 38 [some (.ref a), v1, v2] (.ref a :: st) A Q := c_lcl i_197_37 rfl rfl
theorem q_197_38 : XX d 197 38 [v0, v1, v2] (.ref a :: st) (mk S I L R G) Q ↔ S a = some (.inr 12) ∧ XX d 197 41 [v0, v1, v2] (.int (I a 13) :: st) (mk S I L R G) Q := r_gf i_197_38 rfl (by decide) rfl
theorem q_197_41 : XX d 197 41 [v0, v1, v2] (.int y :: .int x :: st) A Q ↔ if y < x then XX d 197 74 [v0, v1, v2] st A Q else XX d 197 44 [v0, v1, v2] st A Q := b_gt i_197_41 rfl rfl rfl
theorem q_197_44 : XX d 197 44 [some (.ref a), v1, v2] st A Q ↔ XX d 197 45 [some (.ref a), v1, v2] (.ref a :: st) A Q := c_lcl i_197_44 rfl rfl
theorem q_197_45 : XX d 197 45 [v0, v1, v2] (.ref a :: st) (mk S I L R G) Q ↔ S a = some (.inr 12) ∧ XX d 197 48 [v0, v1, v2] (.ref (a + 6581) :: st) (mk S I L R G) Q := r_gf i_197_45 rfl (by decide) rfl
theorem q_197_48 : XX d 197 48 [v0, v1, some (.int x)] st A Q ↔ XX d 197 49 [v0, v1, some (.int x)] (.int x :: st) A Q := c_lcl i_197_48 rfl rfl
theorem q_197_49 : XX d 197 49 [some (.ref a), v1, v2] st A Q ↔ XX d 197 50 [some (.ref a), v1, v2] (.ref a :: st) A Q := c_lcl i_197_49 rfl rfl
theorem q_197_50 : XX d 197 50 [v0, v1, v2] (.ref a :: st) (mk S I L R G) Q ↔ S a = some (.inr 12) ∧ XX d 197 53 [v0, v1, v2] (.ref (a + 6578) :: st) (mk S I L R G) Q := r_gf i_197_50 rfl (by decide) rfl
theorem q_197_53 : XX d 197 53 [v0, v1, some (.int x)] st A Q ↔ XX d 197 54 [v0, v1, some (.int x)] (.int x :: st) A Q := c_lcl i_197_53 rfl rfl
theorem q_197_54 : XX d 197 54 [v0, v1, v2] (.int x :: .ref a :: st) (mk S I L R G) Q ↔ inA (S a) ok_i x ∧ XX d 197 55 [v0, v1, v2] (.int (I a (ix x)) :: st) (mk S I L R G) Q := r_ia i_197_54
theorem q_197_55 : XX d 197 55 [v0, v1, v2] (.int y :: .int x :: .ref a :: st) (mk S I L R G) Q ↔ inA (S a) ok_0 x ∧ XX d 197 56 [v0, v1, v2] st (mk S (wr I a (up (I a) (ix x) y)) L R G) Q := r_ias i_197_55
theorem q_197_56 : XX d 197 56 [some (.ref a), v1, v2] st A Q ↔ XX d 197 57 [some (.ref a), v1, v2] (.ref a :: st) A Q := c_lcl i_197_56 rfl rfl
theorem q_197_57 : XX d 197 57 [v0, v1, v2] (.ref a :: st) (mk S I L R G) Q ↔ S a = some (.inr 12) ∧ XX d 197 60 [v0, v1, v2] (.ref (a + 6582) :: st) (mk S I L R G) Q := r_gf i_197_57 rfl (by decide) rfl
theorem q_197_60 : XX d 197 60 [v0, v1, some (.int x)] st A Q ↔ XX d 197 61 [v0, v1, some (.int x)] (.int x :: st) A Q := c_lcl i_197_60 rfl rfl
theorem q_197_61 : XX d 197 61 [some (.ref a), v1, v2] st A Q ↔ XX d 197 62 [some (.ref a), v1, v2] (.ref a :: st) A Q := c_lcl i_197_61 rfl rfl
theorem q_197_62 : XX d 197 62 [v0, v1, v2] (.ref a :: st) (mk S I L R G) Q ↔ S a = some (.inr 12) ∧ XX d 197 65 [v0, v1, v2] (.ref (a + 6579) :: st) (mk S I L R G) Q := r_gf i_197_62 rfl (by decide) rfl
theorem q_197_65 : XX d 197 65 [v0, v1, some (.int x)] st A Q ↔ XX d 197 66 [v0, v1, some (.int x)] (.int x :: st) A Q := c_lcl i_197_65 rfl rfl
theorem q_197_66 : XX d 197 66 [v0, v1, v2] (.int x :: .ref a :: st) (mk S I L R G) Q ↔ inA (S a) ok_i x ∧ XX d 197 67 [v0, v1, v2] (.int (I a (ix x)) :: st) (mk S I L R G) Q := r_ia i_197_66
theorem q_197_67 : XX d 197 67 [v0, v1, v2] (.int y :: .int x :: .ref a :: st) (mk S I L R G) Q ↔ inA (S a) ok_0 x ∧ XX d 197 68 [v0, v1, v2] st (mk S (wr I a (up (I a) (ix x) y)) L R G) Q := r_ias i_197_67
theorem q_197_68 : XX d 197 68 [v0, some (.int z), some (.int x)] st A Q ↔ XX d 197 71 [v0, some (.int z), some (.int (x + w 1))] st A Q := c_lcl i_197_68 rfl rfl
theorem q_197_71 : XX d 197 71 [v0, v1, v2] st A Q ↔ XX d 197 36 [v0, v1, v2] st A Q := c_go i_197_71 rfl rfl
theorem q_197_74 : XX d 197 74 [v0, v1, v2] [] A Q ↔ Q (.inl none) A := e_retN i_197_74 rfl
theorem q_197_e : XC d 197 [.ref a0, .int x1] A Q ↔ XX d 197 0 [some (.ref a0), some (.int x1), none] [] A Q := Iff.rfl
theorem i_198_0 : t_ins 198 0 = some (.aload_n 0) := by decide +kernel
theorem i_198_1 : t_ins 198 1 = some (.getfield 61) := by decide +kernel
theorem i_198_4 : t_ins 198 4 = some (.iload_n 1) := by decide +kernel
theorem i_198_5 : t_ins 198 5 = some (.iaload) := by decide +kernel
theorem i_198_6 : t_ins 198 6 = some (.aload_n 0) := by decide +kernel
theorem i_198_7 : t_ins 198 7 = some (.getfield 70) := by decide +kernel
theorem i_198_10 : t_ins 198 10 = some (.iload_n 1) := by decide +kernel
theorem i_198_11 : t_ins 198 11 = some (.iaload) := by decide +kernel
theorem i_198_12 : t_ins 198 12 = some (.if_icmp .eq 5) := by decide +kernel
theorem i_198_15 : t_ins 198 15 = some (.iconst 0) := by decide +kernel
theorem i_198_16 : t_ins 198 16 = some (.ireturn) := by decide +kernel
theorem i_198_17 : t_ins 198 17 = some (.iconst 0) := by decide +kernel
theorem i_198_18 : t_ins 198 18 = some (.istore_n 2) := by decide +kernel
theorem i_198_19 : t_ins 198 19 = some (.iload_n 2) := by decide +kernel
theorem i_198_20 : t_ins 198 20 = some (.aload_n 0) := by decide +kernel
theorem i_198_21 : t_ins 198 21 = some (.getfield 61) := by decide +kernel
theorem i_198_24 : t_ins 198 24 = some (.iload_n 1) := by decide +kernel
theorem i_198_25 : t_ins 198 25 = some (.iaload) := by decide +kernel
theorem i_198_26 : t_ins 198 26 = some (.if_icmp .ge 40) := by decide +kernel
theorem i_198_29 : t_ins 198 29 = some (.aload_n 0) := by decide +kernel
theorem i_198_30 : t_ins 198 30 = some (.getfield 55) := by decide +kernel
theorem i_198_33 : t_ins 198 33 = some (.aload_n 0) := by decide +kernel
theorem i_198_34 : t_ins 198 34 = some (.getfield 58) := by decide +kernel
theorem i_198_37 : t_ins 198 37 = some (.iload_n 1) := by decide +kernel
theorem i_198_38 : t_ins 198 38 = some (.iaload) := by decide +kernel
theorem i_198_39 : t_ins 198 39 = some (.iload_n 2) := by decide +kernel
theorem i_198_40 : t_ins 198 40 = some (.iadd) := by decide +kernel
theorem i_198_41 : t_ins 198 41 = some (.baload) := by decide +kernel
theorem i_198_42 : t_ins 198 42 = some (.aload_n 0) := by decide +kernel
theorem i_198_43 : t_ins 198 43 = some (.getfield 64) := by decide +kernel
theorem i_198_46 : t_ins 198 46 = some (.aload_n 0) := by decide +kernel
theorem i_198_47 : t_ins 198 47 = some (.getfield 67) := by decide +kernel
theorem i_198_50 : t_ins 198 50 = some (.iload_n 1) := by decide +kernel
theorem i_198_51 : t_ins 198 51 = some (.iaload) := by decide +kernel
theorem i_198_52 : t_ins 198 52 = some (.iload_n 2) := by decide +kernel
theorem i_198_53 : t_ins 198 53 = some (.iadd) := by decide +kernel
theorem i_198_54 : t_ins 198 54 = some (.baload) := by decide +kernel
theorem i_198_55 : t_ins 198 55 = some (.if_icmp .eq 5) := by decide +kernel
theorem i_198_58 : t_ins 198 58 = some (.iconst 0) := by decide +kernel
theorem i_198_59 : t_ins 198 59 = some (.ireturn) := by decide +kernel
theorem i_198_60 : t_ins 198 60 = some (.iinc 2 1) := by decide +kernel
theorem i_198_63 : t_ins 198 63 = some (.goto (-44)) := by decide +kernel
theorem i_198_66 : t_ins 198 66 = some (.iconst 1) := by decide +kernel
theorem i_198_67 : t_ins 198 67 = some (.ireturn) := by decide +kernel
theorem q_198_0 : XX d 198 0 [some (.ref a), v1, v2] st A Q ↔ XX d 198 1 [some (.ref a), v1, v2] (.ref a :: st) A Q := c_lcl i_198_0 rfl rfl
theorem q_198_1 : XX d 198 1 [v0, v1, v2] (.ref a :: st) (mk S I L R G) Q ↔ S a = some (.inr 12) ∧ XX d 198 4 [v0, v1, v2] (.ref (a + 6579) :: st) (mk S I L R G) Q := r_gf i_198_1 rfl (by decide) rfl
theorem q_198_4 : XX d 198 4 [v0, some (.int x), v2] st A Q ↔ XX d 198 5 [v0, some (.int x), v2] (.int x :: st) A Q := c_lcl i_198_4 rfl rfl
theorem q_198_5 : XX d 198 5 [v0, v1, v2] (.int x :: .ref a :: st) (mk S I L R G) Q ↔ inA (S a) ok_i x ∧ XX d 198 6 [v0, v1, v2] (.int (I a (ix x)) :: st) (mk S I L R G) Q := r_ia i_198_5
theorem q_198_6 : XX d 198 6 [some (.ref a), v1, v2] st A Q ↔ XX d 198 7 [some (.ref a), v1, v2] (.ref a :: st) A Q := c_lcl i_198_6 rfl rfl
theorem q_198_7 : XX d 198 7 [v0, v1, v2] (.ref a :: st) (mk S I L R G) Q ↔ S a = some (.inr 12) ∧ XX d 198 10 [v0, v1, v2] (.ref (a + 6582) :: st) (mk S I L R G) Q := r_gf i_198_7 rfl (by decide) rfl
theorem q_198_10 : XX d 198 10 [v0, some (.int x), v2] st A Q ↔ XX d 198 11 [v0, some (.int x), v2] (.int x :: st) A Q := c_lcl i_198_10 rfl rfl
theorem q_198_11 : XX d 198 11 [v0, v1, v2] (.int x :: .ref a :: st) (mk S I L R G) Q ↔ inA (S a) ok_i x ∧ XX d 198 12 [v0, v1, v2] (.int (I a (ix x)) :: st) (mk S I L R G) Q := r_ia i_198_11
theorem q_198_12 : XX d 198 12 [v0, v1, v2] (.int y :: .int x :: st) A Q ↔ if x = y then XX d 198 17 [v0, v1, v2] st A Q else XX d 198 15 [v0, v1, v2] st A Q := b_eq i_198_12 rfl rfl rfl
theorem q_198_15 : XX d 198 15 [v0, v1, v2] st A Q ↔ XX d 198 16 [v0, v1, v2] (.int (w 0) :: st) A Q := c_stk i_198_15 rfl
theorem q_198_16 : XX d 198 16 [v0, v1, v2] [.int x] A Q ↔ (x = w 0 ∨ x = w 1) ∧ Q (.inl (some (.int x))) A := e_retZ i_198_16 rfl
theorem q_198_17 : XX d 198 17 [v0, v1, v2] st A Q ↔ XX d 198 18 [v0, v1, v2] (.int (w 0) :: st) A Q := c_stk i_198_17 rfl
theorem q_198_18 : XX d 198 18 [v0, some (.int z), v2] (.int x :: st) A Q ↔ XX d 198 19 [v0, some (.int z), some (.int x)] st A Q := c_lcl i_198_18 rfl rfl
theorem q_198_19 : XX d 198 19 [v0, v1, some (.int x)] st A Q ↔ XX d 198 20 [v0, v1, some (.int x)] (.int x :: st) A Q := c_lcl i_198_19 rfl rfl
theorem q_198_20 : XX d 198 20 [some (.ref a), v1, v2] st A Q ↔ XX d 198 21 [some (.ref a), v1, v2] (.ref a :: st) A Q := c_lcl i_198_20 rfl rfl
theorem q_198_21 : XX d 198 21 [v0, v1, v2] (.ref a :: st) (mk S I L R G) Q ↔ S a = some (.inr 12) ∧ XX d 198 24 [v0, v1, v2] (.ref (a + 6579) :: st) (mk S I L R G) Q := r_gf i_198_21 rfl (by decide) rfl
theorem q_198_24 : XX d 198 24 [v0, some (.int x), v2] st A Q ↔ XX d 198 25 [v0, some (.int x), v2] (.int x :: st) A Q := c_lcl i_198_24 rfl rfl
theorem q_198_25 : XX d 198 25 [v0, v1, v2] (.int x :: .ref a :: st) (mk S I L R G) Q ↔ inA (S a) ok_i x ∧ XX d 198 26 [v0, v1, v2] (.int (I a (ix x)) :: st) (mk S I L R G) Q := r_ia i_198_25
theorem q_198_26 : XX d 198 26 [v0, v1, v2] (.int y :: .int x :: st) A Q ↔ if x < y then XX d 198 29 [v0, v1, v2] st A Q else XX d 198 66 [v0, v1, v2] st A Q := b_ge i_198_26 rfl rfl rfl
theorem q_198_29 : XX d 198 29 [some (.ref a), v1, v2] st A Q ↔ XX d 198 30 [some (.ref a), v1, v2] (.ref a :: st) A Q := c_lcl i_198_29 rfl rfl
theorem q_198_30 : XX d 198 30 [v0, v1, v2] (.ref a :: st) (mk S I L R G) Q ↔ S a = some (.inr 12) ∧ XX d 198 33 [v0, v1, v2] (.ref (a + 6577) :: st) (mk S I L R G) Q := r_gf i_198_30 rfl (by decide) rfl
theorem q_198_33 : XX d 198 33 [some (.ref a), v1, v2] st A Q ↔ XX d 198 34 [some (.ref a), v1, v2] (.ref a :: st) A Q := c_lcl i_198_33 rfl rfl
theorem q_198_34 : XX d 198 34 [v0, v1, v2] (.ref a :: st) (mk S I L R G) Q ↔ S a = some (.inr 12) ∧ XX d 198 37 [v0, v1, v2] (.ref (a + 6578) :: st) (mk S I L R G) Q := r_gf i_198_34 rfl (by decide) rfl
theorem q_198_37 : XX d 198 37 [v0, some (.int x), v2] st A Q ↔ XX d 198 38 [v0, some (.int x), v2] (.int x :: st) A Q := c_lcl i_198_37 rfl rfl
theorem q_198_38 : XX d 198 38 [v0, v1, v2] (.int x :: .ref a :: st) (mk S I L R G) Q ↔ inA (S a) ok_i x ∧ XX d 198 39 [v0, v1, v2] (.int (I a (ix x)) :: st) (mk S I L R G) Q := r_ia i_198_38
theorem q_198_39 : XX d 198 39 [v0, v1, some (.int x)] st A Q ↔ XX d 198 40 [v0, v1, some (.int x)] (.int x :: st) A Q := c_lcl i_198_39 rfl rfl
theorem q_198_40 : XX d 198 40 [v0, v1, v2] (.int y :: .int x :: st) A Q ↔ XX d 198 41 [v0, v1, v2] (.int (x + y) :: st) A Q := c_stk i_198_40 rfl
theorem q_198_41 : XX d 198 41 [v0, v1, v2] (.int x :: .ref a :: st) (mk S I L R G) Q ↔ inA (S a) ok_b x ∧ XX d 198 42 [v0, v1, v2] (.int (I a (ix x)) :: st) (mk S I L R G) Q := r_ba i_198_41
theorem q_198_42 : XX d 198 42 [some (.ref a), v1, v2] st A Q ↔ XX d 198 43 [some (.ref a), v1, v2] (.ref a :: st) A Q := c_lcl i_198_42 rfl rfl
theorem q_198_43 : XX d 198 43 [v0, v1, v2] (.ref a :: st) (mk S I L R G) Q ↔ S a = some (.inr 12) ∧ XX d 198 46 [v0, v1, v2] (.ref (a + 6580) :: st) (mk S I L R G) Q := r_gf i_198_43 rfl (by decide) rfl
theorem q_198_46 : XX d 198 46 [some (.ref a), v1, v2] st A Q ↔ XX d 198 47 [some (.ref a), v1, v2] (.ref a :: st) A Q := c_lcl i_198_46 rfl rfl
theorem q_198_47 : XX d 198 47 [v0, v1, v2] (.ref a :: st) (mk S I L R G) Q ↔ S a = some (.inr 12) ∧ XX d 198 50 [v0, v1, v2] (.ref (a + 6581) :: st) (mk S I L R G) Q := r_gf i_198_47 rfl (by decide) rfl
theorem q_198_50 : XX d 198 50 [v0, some (.int x), v2] st A Q ↔ XX d 198 51 [v0, some (.int x), v2] (.int x :: st) A Q := c_lcl i_198_50 rfl rfl
theorem q_198_51 : XX d 198 51 [v0, v1, v2] (.int x :: .ref a :: st) (mk S I L R G) Q ↔ inA (S a) ok_i x ∧ XX d 198 52 [v0, v1, v2] (.int (I a (ix x)) :: st) (mk S I L R G) Q := r_ia i_198_51
theorem q_198_52 : XX d 198 52 [v0, v1, some (.int x)] st A Q ↔ XX d 198 53 [v0, v1, some (.int x)] (.int x :: st) A Q := c_lcl i_198_52 rfl rfl
theorem q_198_53 : XX d 198 53 [v0, v1, v2] (.int y :: .int x :: st) A Q ↔ XX d 198 54 [v0, v1, v2] (.int (x + y) :: st) A Q := c_stk i_198_53 rfl
theorem q_198_54 : XX d 198 54 [v0, v1, v2] (.int x :: .ref a :: st) (mk S I L R G) Q ↔ inA (S a) ok_b x ∧ XX d 198 55 [v0, v1, v2] (.int (I a (ix x)) :: st) (mk S I L R G) Q := r_ba i_198_54
theorem q_198_55 : XX d 198 55 [v0, v1, v2] (.int y :: .int x :: st) A Q ↔ if x = y then XX d 198 60 [v0, v1, v2] st A Q else XX d 198 58 [v0, v1, v2] st A Q := b_eq i_198_55 rfl rfl rfl
theorem q_198_58 : XX d 198 58 [v0, v1, v2] st A Q ↔ XX d 198 59 [v0, v1, v2] (.int (w 0) :: st) A Q := c_stk i_198_58 rfl
theorem q_198_59 : XX d 198 59 [v0, v1, v2] [.int x] A Q ↔ (x = w 0 ∨ x = w 1) ∧ Q (.inl (some (.int x))) A := e_retZ i_198_59 rfl
theorem q_198_60 : XX d 198 60 [v0, some (.int z), some (.int x)] st A Q ↔ XX d 198 63 [v0, some (.int z), some (.int (x + w 1))] st A Q := c_lcl i_198_60 rfl rfl
theorem q_198_63 : XX d 198 63 [v0, v1, v2] st A Q ↔ XX d 198 19 [v0, v1, v2] st A Q := c_go i_198_63 rfl rfl
theorem q_198_66 : XX d 198 66 [v0, v1, v2] st A Q ↔ XX d 198 67 [v0, v1, v2] (.int (w 1) :: st) A Q := c_stk i_198_66 rfl
theorem q_198_67 : XX d 198 67 [v0, v1, v2] [.int x] A Q ↔ (x = w 0 ∨ x = w 1) ∧ Q (.inl (some (.int x))) A := e_retZ i_198_67 rfl
theorem q_198_e : XC d 198 [.ref a0, .int x1] A Q ↔ XX d 198 0 [some (.ref a0), some (.int x1), none] [] A Q := Iff.rfl
theorem i_199_0 : t_ins 199 0 = some (.iconst 0) := by decide +kernel
theorem i_199_1 : t_ins 199 1 = some (.istore_n 1) := by decide +kernel
theorem i_199_2 : t_ins 199 2 = some (.iconst 0) := by decide +kernel
theorem i_199_3 : t_ins 199 3 = some (.istore_n 2) := by decide +kernel
theorem i_199_4 : t_ins 199 4 = some (.iload_n 2) := by decide +kernel
theorem i_199_5 : t_ins 199 5 = some (.aload_n 0) := by decide +kernel
theorem i_199_6 : t_ins 199 6 = some (.getfield 36) := by decide +kernel
theorem i_199_9 : t_ins 199 9 = some (.if_icmp .gt 25) := by decide +kernel
theorem i_199_12 : t_ins 199 12 = some (.iload_n 1) := by decide +kernel
theorem i_199_13 : t_ins 199 13 = some (.aload_n 0) := by decide +kernel
theorem i_199_14 : t_ins 199 14 = some (.iload_n 2) := by decide +kernel
theorem i_199_15 : t_ins 199 15 = some (.invokevirtual 305) := by decide +kernel
theorem i_199_18 : t_ins 199 18 = some (.ifCond .eq 7) := by decide +kernel
theorem i_199_21 : t_ins 199 21 = some (.iconst 0) := by decide +kernel
theorem i_199_22 : t_ins 199 22 = some (.goto 4) := by decide +kernel
theorem i_199_25 : t_ins 199 25 = some (.iconst 1) := by decide +kernel
theorem i_199_26 : t_ins 199 26 = some (.iadd) := by decide +kernel
theorem i_199_27 : t_ins 199 27 = some (.istore_n 1) := by decide +kernel
theorem i_199_28 : t_ins 199 28 = some (.iinc 2 1) := by decide +kernel
theorem i_199_31 : t_ins 199 31 = some (.goto (-27)) := by decide +kernel
theorem i_199_34 : t_ins 199 34 = some (.iload_n 1) := by decide +kernel
theorem i_199_35 : t_ins 199 35 = some (.ireturn) := by decide +kernel
theorem q_199_0 : XX d 199 0 [v0, v1, v2] st A Q ↔ XX d 199 1 [v0, v1, v2] (.int (w 0) :: st) A Q := c_stk i_199_0 rfl
theorem q_199_1 : XX d 199 1 [some (.ref b), v1, v2] (.int x :: st) A Q ↔ XX d 199 2 [some (.ref b), some (.int x), v2] st A Q := c_lcl i_199_1 rfl rfl
theorem q_199_2 : XX d 199 2 [v0, v1, v2] st A Q ↔ XX d 199 3 [v0, v1, v2] (.int (w 0) :: st) A Q := c_stk i_199_2 rfl
theorem q_199_3 : XX d 199 3 [v0, some (.int z), v2] (.int x :: st) A Q ↔ XX d 199 4 [v0, some (.int z), some (.int x)] st A Q := c_lcl i_199_3 rfl rfl
theorem q_199_4 : XX d 199 4 [v0, v1, some (.int x)] st A Q ↔ XX d 199 5 [v0, v1, some (.int x)] (.int x :: st) A Q := c_lcl i_199_4 rfl rfl
theorem q_199_5 : XX d 199 5 [some (.ref a), v1, v2] st A Q ↔ XX d 199 6 [some (.ref a), v1, v2] (.ref a :: st) A Q := c_lcl i_199_5 rfl rfl
theorem q_199_6 : XX d 199 6 [v0, v1, v2] (.ref a :: st) (mk S I L R G) Q ↔ S a = some (.inr 12) ∧ XX d 199 9 [v0, v1, v2] (.int (I a 13) :: st) (mk S I L R G) Q := r_gf i_199_6 rfl (by decide) rfl
theorem q_199_9 : XX d 199 9 [v0, v1, v2] (.int y :: .int x :: st) A Q ↔ if y < x then XX d 199 34 [v0, v1, v2] st A Q else XX d 199 12 [v0, v1, v2] st A Q := b_gt i_199_9 rfl rfl rfl
theorem q_199_12 : XX d 199 12 [v0, some (.int x), v2] st A Q ↔ XX d 199 13 [v0, some (.int x), v2] (.int x :: st) A Q := c_lcl i_199_12 rfl rfl
theorem q_199_13 : XX d 199 13 [some (.ref a), v1, v2] st A Q ↔ XX d 199 14 [some (.ref a), v1, v2] (.ref a :: st) A Q := c_lcl i_199_13 rfl rfl
theorem q_199_14 : XX d 199 14 [v0, v1, some (.int x)] st A Q ↔ XX d 199 15 [v0, v1, some (.int x)] (.int x :: st) A Q := c_lcl i_199_14 rfl rfl
theorem q_199_15 : XX (d + 1) 199 15 [v0, v1, v2] [.int x1, .ref a0, .int x2] (mk S I L R G) Q ↔ S a0 = some (.inr 12) ∧ XC d 198 [.ref a0, .int x1] (mk S I L R G) (XK (d + 1) 199 15 [v0, v1, v2] [.int x2] Q) := c_callV i_199_15 rfl rfl rfl rfl (Nat.le_of_ble_eq_true rfl) (Nat.le_of_ble_eq_true rfl) rfl
theorem q_199_18 : XX d 199 18 [v0, v1, v2] (.int x :: st) A Q ↔ if x = w 0 then XX d 199 25 [v0, v1, v2] st A Q else XX d 199 21 [v0, v1, v2] st A Q := z_eq i_199_18 rfl rfl rfl
theorem q_199_21 : XX d 199 21 [v0, v1, v2] st A Q ↔ XX d 199 22 [v0, v1, v2] (.int (w 0) :: st) A Q := c_stk i_199_21 rfl
theorem q_199_22 : XX d 199 22 [v0, v1, v2] st A Q ↔ XX d 199 26 [v0, v1, v2] st A Q := c_go i_199_22 rfl rfl
theorem q_199_25 : XX d 199 25 [v0, v1, v2] st A Q ↔ XX d 199 26 [v0, v1, v2] (.int (w 1) :: st) A Q := c_stk i_199_25 rfl
theorem q_199_26 : XX d 199 26 [v0, v1, v2] (.int y :: .int x :: st) A Q ↔ XX d 199 27 [v0, v1, v2] (.int (x + y) :: st) A Q := c_stk i_199_26 rfl
theorem q_199_27 : XX d 199 27 [some (.ref b), v1, v2] (.int x :: st) A Q ↔ XX d 199 28 [some (.ref b), some (.int x), v2] st A Q := c_lcl i_199_27 rfl rfl
theorem q_199_28 : XX d 199 28 [v0, some (.int z), some (.int x)] st A Q ↔ XX d 199 31 [v0, some (.int z), some (.int (x + w 1))] st A Q := c_lcl i_199_28 rfl rfl
theorem q_199_31 : XX d 199 31 [v0, v1, v2] st A Q ↔ XX d 199 4 [v0, v1, v2] st A Q := c_go i_199_31 rfl rfl
theorem q_199_34 : XX d 199 34 [v0, some (.int x), v2] st A Q ↔ XX d 199 35 [v0, some (.int x), v2] (.int x :: st) A Q := c_lcl i_199_34 rfl rfl
theorem q_199_35 : XX d 199 35 [v0, v1, v2] [.int x] A Q ↔ Q (.inl (some (.int x))) A := e_retI i_199_35 rfl
theorem q_199_e : XC d 199 [.ref a0] A Q ↔ XX d 199 0 [some (.ref a0), none, none] [] A Q := Iff.rfl
theorem i_200_0 : t_ins 200 0 = some (.aload_n 0) := by decide +kernel
theorem i_200_1 : t_ins 200 1 = some (.iconst 0) := by decide +kernel
theorem i_200_2 : t_ins 200 2 = some (.putfield 121) := by decide +kernel
theorem i_200_5 : t_ins 200 5 = some (.aload_n 0) := by decide +kernel
theorem i_200_6 : t_ins 200 6 = some (.aload_n 0) := by decide +kernel
theorem i_200_7 : t_ins 200 7 = some (.iload_n 1) := by decide +kernel
theorem i_200_8 : t_ins 200 8 = some (.iload_n 2) := by decide +kernel
theorem i_200_9 : t_ins 200 9 = some (.invokevirtual 248) := by decide +kernel
theorem i_200_12 : t_ins 200 12 = some (.ifCond .ne 7) := by decide +kernel
theorem i_200_15 : t_ins 200 15 = some (.iconst 1) := by decide +kernel
theorem i_200_16 : t_ins 200 16 = some (.goto 4) := by decide +kernel
theorem i_200_19 : t_ins 200 19 = some (.iconst 0) := by decide +kernel
theorem i_200_20 : t_ins 200 20 = some (.iconst 1) := by decide +kernel
theorem i_200_21 : t_ins 200 21 = some (.iconst 0) := by decide +kernel
theorem i_200_22 : t_ins 200 22 = some (.invokevirtual 234) := by decide +kernel
theorem i_200_25 : t_ins 200 25 = some (.ifCond .ne 21) := by decide +kernel
theorem i_200_28 : t_ins 200 28 = some (.aload_n 0) := by decide +kernel
theorem i_200_29 : t_ins 200 29 = some (.iload_n 2) := by decide +kernel
theorem i_200_30 : t_ins 200 30 = some (.ifCond .ne 7) := by decide +kernel
theorem i_200_33 : t_ins 200 33 = some (.iconst 1) := by decide +kernel
theorem i_200_34 : t_ins 200 34 = some (.goto 4) := by decide +kernel
theorem i_200_37 : t_ins 200 37 = some (.iconst 0) := by decide +kernel
theorem i_200_38 : t_ins 200 38 = some (.iconst 2) := by decide +kernel
theorem i_200_39 : t_ins 200 39 = some (.iconst 1) := by decide +kernel
theorem i_200_40 : t_ins 200 40 = some (.invokevirtual 234) := by decide +kernel
theorem i_200_43 : t_ins 200 43 = some (.ifCond .eq 5) := by decide +kernel
theorem i_200_46 : t_ins 200 46 = some (.iconst 0) := by decide +kernel
theorem i_200_47 : t_ins 200 47 = some (.ireturn) := by decide +kernel
theorem i_200_48 : t_ins 200 48 = some (.aload_n 0) := by decide +kernel
theorem i_200_49 : t_ins 200 49 = some (.iload_n 1) := by decide +kernel
theorem i_200_50 : t_ins 200 50 = some (.invokevirtual 308) := by decide +kernel
theorem i_200_53 : t_ins 200 53 = some (.aload_n 0) := by decide +kernel
theorem i_200_54 : t_ins 200 54 = some (.invokevirtual 227) := by decide +kernel
theorem i_200_57 : t_ins 200 57 = some (.aload_n 0) := by decide +kernel
theorem i_200_58 : t_ins 200 58 = some (.iload_n 1) := by decide +kernel
theorem i_200_59 : t_ins 200 59 = some (.iload_n 2) := by decide +kernel
theorem i_200_60 : t_ins 200 60 = some (.invokevirtual 311) := by decide +kernel
theorem i_200_63 : t_ins 200 63 = some (.aload_n 0) := by decide +kernel
theorem i_200_64 : t_ins 200 64 = some (.iload_n 1) := by decide +kernel
theorem i_200_65 : t_ins 200 65 = some (.invokevirtual 301) := by decide +kernel
theorem i_200_68 : t_ins 200 68 = some (.aload_n 0) := by decide +kernel
theorem i_200_69 : t_ins 200 69 = some (.invokevirtual 314) := by decide +kernel
theorem i_200_72 : t_ins 200 72 = some (.ireturn) := by decide +kernel
theorem q_200_0 : XX d 200 0 [some (.ref a), v1, v2] st A Q ↔ XX d 200 1 [some (.ref a), v1, v2] (.ref a :: st) A Q := c_lcl i_200_0 rfl rfl
theorem q_200_1 : XX d 200 1 [v0, v1, v2] st A Q ↔ XX d 200 2 [v0, v1, v2] (.int (w 0) :: st) A Q := c_stk i_200_1 rfl
theorem q_200_2 : XX d 200 2 [v0, v1, v2] (.int x :: .ref a :: st) (mk S I L R G) Q ↔ S a = some (.inr 12) ∧ XX d 200 5 [v0, v1, v2] st (mk S (wr I a (up (I a) 0 x)) L R G) Q := r_pf i_200_2 rfl (by decide) rfl rfl rfl
theorem q_200_5 : XX d 200 5 [some (.ref a), v1, v2] st A Q ↔ XX d 200 6 [some (.ref a), v1, v2] (.ref a :: st) A Q := c_lcl i_200_5 rfl rfl
theorem q_200_6 : XX d 200 6 [some (.ref a), v1, v2] st A Q ↔ XX d 200 7 [some (.ref a), v1, v2] (.ref a :: st) A Q := c_lcl i_200_6 rfl rfl
theorem q_200_7 : XX d 200 7 [v0, some (.int x), v2] st A Q ↔ XX d 200 8 [v0, some (.int x), v2] (.int x :: st) A Q := c_lcl i_200_7 rfl rfl
theorem q_200_8 : XX d 200 8 [v0, v1, some (.int x)] st A Q ↔ XX d 200 9 [v0, v1, some (.int x)] (.int x :: st) A Q := c_lcl i_200_8 rfl rfl
theorem q_200_9 : XX (d + 1) 200 9 [v0, v1, v2] [.int x2, .int x1, .ref a0, .ref a3] (mk S I L R G) Q ↔ S a0 = some (.inr 12) ∧ XC d 183 [.ref a0, .int x1, .int x2] (mk S I L R G) (XK (d + 1) 200 9 [v0, v1, v2] [.ref a3] Q) := c_callV i_200_9 rfl rfl rfl rfl (Nat.le_of_ble_eq_true rfl) (Nat.le_of_ble_eq_true rfl) rfl
theorem q_200_12 : XX d 200 12 [v0, v1, v2] (.int x :: st) A Q ↔ if x = w 0 then XX d 200 15 [v0, v1, v2] st A Q else XX d 200 19 [v0, v1, v2] st A Q := z_ne i_200_12 rfl rfl rfl
theorem q_200_15 : XX d 200 15 [v0, v1, v2] st A Q ↔ XX d 200 16 [v0, v1, v2] (.int (w 1) :: st) A Q := c_stk i_200_15 rfl
theorem q_200_16 : XX d 200 16 [v0, v1, v2] st A Q ↔ XX d 200 20 [v0, v1, v2] st A Q := c_go i_200_16 rfl rfl
theorem q_200_19 : XX d 200 19 [v0, v1, v2] st A Q ↔ XX d 200 20 [v0, v1, v2] (.int (w 0) :: st) A Q := c_stk i_200_19 rfl
theorem q_200_20 : XX d 200 20 [v0, v1, v2] st A Q ↔ XX d 200 21 [v0, v1, v2] (.int (w 1) :: st) A Q := c_stk i_200_20 rfl
theorem q_200_21 : XX d 200 21 [v0, v1, v2] st A Q ↔ XX d 200 22 [v0, v1, v2] (.int (w 0) :: st) A Q := c_stk i_200_21 rfl
theorem q_200_22 : XX (d + 1) 200 22 [v0, v1, v2] [.int x3, .int x2, .int x1, .ref a0] (mk S I L R G) Q ↔ S a0 = some (.inr 12) ∧ XC d 154 [.ref a0, .int x1, .int x2, .int x3] (mk S I L R G) (XK (d + 1) 200 22 [v0, v1, v2] [] Q) := c_callV i_200_22 rfl rfl rfl rfl (Nat.le_of_ble_eq_true rfl) (Nat.le_of_ble_eq_true rfl) rfl
theorem q_200_25 : XX d 200 25 [v0, v1, v2] (.int x :: st) A Q ↔ if x = w 0 then XX d 200 28 [v0, v1, v2] st A Q else XX d 200 46 [v0, v1, v2] st A Q := z_ne i_200_25 rfl rfl rfl
theorem q_200_28 : XX d 200 28 [some (.ref a), v1, v2] st A Q ↔ XX d 200 29 [some (.ref a), v1, v2] (.ref a :: st) A Q := c_lcl i_200_28 rfl rfl
theorem q_200_29 : XX d 200 29 [v0, v1, some (.int x)] st A Q ↔ XX d 200 30 [v0, v1, some (.int x)] (.int x :: st) A Q := c_lcl i_200_29 rfl rfl
theorem q_200_30 : XX d 200 30 [v0, v1, v2] (.int x :: st) A Q ↔ if x = w 0 then XX d 200 33 [v0, v1, v2] st A Q else XX d 200 37 [v0, v1, v2] st A Q := z_ne i_200_30 rfl rfl rfl
theorem q_200_33 : XX d 200 33 [v0, v1, v2] st A Q ↔ XX d 200 34 [v0, v1, v2] (.int (w 1) :: st) A Q := c_stk i_200_33 rfl
theorem q_200_34 : XX d 200 34 [v0, v1, v2] st A Q ↔ XX d 200 38 [v0, v1, v2] st A Q := c_go i_200_34 rfl rfl
theorem q_200_37 : XX d 200 37 [v0, v1, v2] st A Q ↔ XX d 200 38 [v0, v1, v2] (.int (w 0) :: st) A Q := c_stk i_200_37 rfl
theorem q_200_38 : XX d 200 38 [v0, v1, v2] st A Q ↔ XX d 200 39 [v0, v1, v2] (.int (w 2) :: st) A Q := c_stk i_200_38 rfl
theorem q_200_39 : XX d 200 39 [v0, v1, v2] st A Q ↔ XX d 200 40 [v0, v1, v2] (.int (w 1) :: st) A Q := c_stk i_200_39 rfl
theorem q_200_40 : XX (d + 1) 200 40 [v0, v1, v2] [.int x3, .int x2, .int x1, .ref a0] (mk S I L R G) Q ↔ S a0 = some (.inr 12) ∧ XC d 154 [.ref a0, .int x1, .int x2, .int x3] (mk S I L R G) (XK (d + 1) 200 40 [v0, v1, v2] [] Q) := c_callV i_200_40 rfl rfl rfl rfl (Nat.le_of_ble_eq_true rfl) (Nat.le_of_ble_eq_true rfl) rfl
theorem q_200_43 : XX d 200 43 [v0, v1, v2] (.int x :: st) A Q ↔ if x = w 0 then XX d 200 48 [v0, v1, v2] st A Q else XX d 200 46 [v0, v1, v2] st A Q := z_eq i_200_43 rfl rfl rfl
theorem q_200_46 : XX d 200 46 [v0, v1, v2] st A Q ↔ XX d 200 47 [v0, v1, v2] (.int (w 0) :: st) A Q := c_stk i_200_46 rfl
theorem q_200_47 : XX d 200 47 [v0, v1, v2] [.int x] A Q ↔ Q (.inl (some (.int x))) A := e_retI i_200_47 rfl
theorem q_200_48 : XX d 200 48 [some (.ref a), v1, v2] st A Q ↔ XX d 200 49 [some (.ref a), v1, v2] (.ref a :: st) A Q := c_lcl i_200_48 rfl rfl
theorem q_200_49 : XX d 200 49 [v0, some (.int x), v2] st A Q ↔ XX d 200 50 [v0, some (.int x), v2] (.int x :: st) A Q := c_lcl i_200_49 rfl rfl
theorem q_200_50 : XX (d + 1) 200 50 [v0, v1, v2] [.int x1, .ref a0] (mk S I L R G) Q ↔ S a0 = some (.inr 12) ∧ XC d 197 [.ref a0, .int x1] (mk S I L R G) (XK (d + 1) 200 50 [v0, v1, v2] [] Q) := c_callV i_200_50 rfl rfl rfl rfl (Nat.le_of_ble_eq_true rfl) (Nat.le_of_ble_eq_true rfl) rfl
theorem q_200_53 : XX d 200 53 [some (.ref a), v1, v2] st A Q ↔ XX d 200 54 [some (.ref a), v1, v2] (.ref a :: st) A Q := c_lcl i_200_53 rfl rfl
theorem q_200_54 : XX (d + 1) 200 54 [v0, v1, v2] [.ref a0] (mk S I L R G) Q ↔ S a0 = some (.inr 12) ∧ XC d 179 [.ref a0] (mk S I L R G) (XK (d + 1) 200 54 [v0, v1, v2] [] Q) := c_callV i_200_54 rfl rfl rfl rfl (Nat.le_of_ble_eq_true rfl) (Nat.le_of_ble_eq_true rfl) rfl
theorem q_200_57 : XX d 200 57 [some (.ref a), v1, v2] st A Q ↔ XX d 200 58 [some (.ref a), v1, v2] (.ref a :: st) A Q := c_lcl i_200_57 rfl rfl
theorem q_200_58 : XX d 200 58 [v0, some (.int x), v2] st A Q ↔ XX d 200 59 [v0, some (.int x), v2] (.int x :: st) A Q := c_lcl i_200_58 rfl rfl
theorem q_200_59 : XX d 200 59 [v0, v1, some (.int x)] st A Q ↔ XX d 200 60 [v0, v1, some (.int x)] (.int x :: st) A Q := c_lcl i_200_59 rfl rfl
theorem q_200_60 : XX (d + 1) 200 60 [v0, v1, v2] [.int x2, .int x1, .ref a0] (mk S I L R G) Q ↔ S a0 = some (.inr 12) ∧ XC d 186 [.ref a0, .int x1, .int x2] (mk S I L R G) (XK (d + 1) 200 60 [v0, v1, v2] [] Q) := c_callV i_200_60 rfl rfl rfl rfl (Nat.le_of_ble_eq_true rfl) (Nat.le_of_ble_eq_true rfl) rfl
theorem q_200_63 : XX d 200 63 [some (.ref a), v1, v2] st A Q ↔ XX d 200 64 [some (.ref a), v1, v2] (.ref a :: st) A Q := c_lcl i_200_63 rfl rfl
theorem q_200_64 : XX d 200 64 [v0, some (.int x), v2] st A Q ↔ XX d 200 65 [v0, some (.int x), v2] (.int x :: st) A Q := c_lcl i_200_64 rfl rfl
theorem q_200_65 : XX (d + 1) 200 65 [v0, v1, v2] [.int x1, .ref a0] (mk S I L R G) Q ↔ S a0 = some (.inr 12) ∧ XC d 194 [.ref a0, .int x1] (mk S I L R G) (XK (d + 1) 200 65 [v0, v1, v2] [] Q) := c_callV i_200_65 rfl rfl rfl rfl (Nat.le_of_ble_eq_true rfl) (Nat.le_of_ble_eq_true rfl) rfl
theorem q_200_68 : XX d 200 68 [some (.ref a), v1, v2] st A Q ↔ XX d 200 69 [some (.ref a), v1, v2] (.ref a :: st) A Q := c_lcl i_200_68 rfl rfl
theorem q_200_69 : XX (d + 1) 200 69 [v0, v1, v2] [.ref a0] (mk S I L R G) Q ↔ S a0 = some (.inr 12) ∧ XC d 199 [.ref a0] (mk S I L R G) (XK (d + 1) 200 69 [v0, v1, v2] [] Q) := c_callV i_200_69 rfl rfl rfl rfl (Nat.le_of_ble_eq_true rfl) (Nat.le_of_ble_eq_true rfl) rfl
theorem q_200_72 : XX d 200 72 [v0, v1, v2] [.int x] A Q ↔ Q (.inl (some (.int x))) A := e_retI i_200_72 rfl
theorem q_200_e : XC d 200 [.ref a0, .int x1, .int x2] A Q ↔ XX d 200 0 [some (.ref a0), some (.int x1), some (.int x2)] [] A Q := Iff.rfl
theorem i_201_0 : t_ins 201 0 = some (.aload_n 0) := by decide +kernel
theorem i_201_1 : t_ins 201 1 = some (.iconst 0) := by decide +kernel
theorem i_201_2 : t_ins 201 2 = some (.putfield 121) := by decide +kernel
theorem i_201_5 : t_ins 201 5 = some (.aload_n 0) := by decide +kernel
theorem i_201_6 : t_ins 201 6 = some (.iload_n 1) := by decide +kernel
theorem i_201_7 : t_ins 201 7 = some (.iconst 0) := by decide +kernel
theorem i_201_8 : t_ins 201 8 = some (.iconst 4) := by decide +kernel
theorem i_201_9 : t_ins 201 9 = some (.invokestatic 230) := by decide +kernel
theorem i_201_12 : t_ins 201 12 = some (.ifCond .ne 7) := by decide +kernel
theorem i_201_15 : t_ins 201 15 = some (.iconst 1) := by decide +kernel
theorem i_201_16 : t_ins 201 16 = some (.goto 4) := by decide +kernel
theorem i_201_19 : t_ins 201 19 = some (.iconst 0) := by decide +kernel
theorem i_201_20 : t_ins 201 20 = some (.iconst 1) := by decide +kernel
theorem i_201_21 : t_ins 201 21 = some (.iconst 1) := by decide +kernel
theorem i_201_22 : t_ins 201 22 = some (.invokevirtual 234) := by decide +kernel
theorem i_201_25 : t_ins 201 25 = some (.ifCond .eq 5) := by decide +kernel
theorem i_201_28 : t_ins 201 28 = some (.iconst 0) := by decide +kernel
theorem i_201_29 : t_ins 201 29 = some (.ireturn) := by decide +kernel
theorem i_201_30 : t_ins 201 30 = some (.iload_n 1) := by decide +kernel
theorem i_201_31 : t_ins 201 31 = some (.ifCond .ne 10) := by decide +kernel
theorem i_201_34 : t_ins 201 34 = some (.aload_n 0) := by decide +kernel
theorem i_201_35 : t_ins 201 35 = some (.getfield 36) := by decide +kernel
theorem i_201_38 : t_ins 201 38 = some (.goto 35) := by decide +kernel
theorem i_201_41 : t_ins 201 41 = some (.iload_n 1) := by decide +kernel
theorem i_201_42 : t_ins 201 42 = some (.iconst 1) := by decide +kernel
theorem i_201_43 : t_ins 201 43 = some (.if_icmp .ne 10) := by decide +kernel
theorem i_201_46 : t_ins 201 46 = some (.aload_n 0) := by decide +kernel
theorem i_201_47 : t_ins 201 47 = some (.getfield 124) := by decide +kernel
theorem i_201_50 : t_ins 201 50 = some (.goto 23) := by decide +kernel
theorem i_201_53 : t_ins 201 53 = some (.iload_n 1) := by decide +kernel
theorem i_201_54 : t_ins 201 54 = some (.iconst 2) := by decide +kernel
theorem i_201_55 : t_ins 201 55 = some (.if_icmp .ne 10) := by decide +kernel
theorem i_201_58 : t_ins 201 58 = some (.aload_n 0) := by decide +kernel
theorem i_201_59 : t_ins 201 59 = some (.getfield 242) := by decide +kernel
theorem i_201_62 : t_ins 201 62 = some (.goto 11) := by decide +kernel
theorem i_201_65 : t_ins 201 65 = some (.aload_n 0) := by decide +kernel
theorem i_201_66 : t_ins 201 66 = some (.getfield 20) := by decide +kernel
theorem i_201_69 : t_ins 201 69 = some (.iload_n 1) := by decide +kernel
theorem i_201_70 : t_ins 201 70 = some (.iconst 3) := by decide +kernel
theorem i_201_71 : t_ins 201 71 = some (.isub) := by decide +kernel
theorem i_201_72 : t_ins 201 72 = some (.iaload) := by decide +kernel
theorem i_201_73 : t_ins 201 73 = some (.ireturn) := by decide +kernel
theorem q_201_0 : XX d 201 0 [some (.ref a), v1] st A Q ↔ XX d 201 1 [some (.ref a), v1] (.ref a :: st) A Q := c_lcl i_201_0 rfl rfl
theorem q_201_1 : XX d 201 1 [v0, v1] st A Q ↔ XX d 201 2 [v0, v1] (.int (w 0) :: st) A Q := c_stk i_201_1 rfl
theorem q_201_2 : XX d 201 2 [v0, v1] (.int x :: .ref a :: st) (mk S I L R G) Q ↔ S a = some (.inr 12) ∧ XX d 201 5 [v0, v1] st (mk S (wr I a (up (I a) 0 x)) L R G) Q := r_pf i_201_2 rfl (by decide) rfl rfl rfl
theorem q_201_5 : XX d 201 5 [some (.ref a), v1] st A Q ↔ XX d 201 6 [some (.ref a), v1] (.ref a :: st) A Q := c_lcl i_201_5 rfl rfl
theorem q_201_6 : XX d 201 6 [v0, some (.int x)] st A Q ↔ XX d 201 7 [v0, some (.int x)] (.int x :: st) A Q := c_lcl i_201_6 rfl rfl
theorem q_201_7 : XX d 201 7 [v0, v1] st A Q ↔ XX d 201 8 [v0, v1] (.int (w 0) :: st) A Q := c_stk i_201_7 rfl
theorem q_201_8 : XX d 201 8 [v0, v1] st A Q ↔ XX d 201 9 [v0, v1] (.int (w 4) :: st) A Q := c_stk i_201_8 rfl
theorem q_201_9 : XX (d + 1) 201 9 [v0, v1] [.int x2, .int x1, .int x0, .ref a3] A Q ↔ XC d 155 [.int x0, .int x1, .int x2] A (XK (d + 1) 201 9 [v0, v1] [.ref a3] Q) := c_callS i_201_9 rfl rfl rfl rfl (Nat.le_of_ble_eq_true rfl) (Nat.le_of_ble_eq_true rfl)
theorem q_201_12 : XX d 201 12 [v0, v1] (.int x :: st) A Q ↔ if x = w 0 then XX d 201 15 [v0, v1] st A Q else XX d 201 19 [v0, v1] st A Q := z_ne i_201_12 rfl rfl rfl
theorem q_201_15 : XX d 201 15 [v0, v1] st A Q ↔ XX d 201 16 [v0, v1] (.int (w 1) :: st) A Q := c_stk i_201_15 rfl
theorem q_201_16 : XX d 201 16 [v0, v1] st A Q ↔ XX d 201 20 [v0, v1] st A Q := c_go i_201_16 rfl rfl
theorem q_201_19 : XX d 201 19 [v0, v1] st A Q ↔ XX d 201 20 [v0, v1] (.int (w 0) :: st) A Q := c_stk i_201_19 rfl
theorem q_201_20 : XX d 201 20 [v0, v1] st A Q ↔ XX d 201 21 [v0, v1] (.int (w 1) :: st) A Q := c_stk i_201_20 rfl
theorem q_201_21 : XX d 201 21 [v0, v1] st A Q ↔ XX d 201 22 [v0, v1] (.int (w 1) :: st) A Q := c_stk i_201_21 rfl
theorem q_201_22 : XX (d + 1) 201 22 [v0, v1] [.int x3, .int x2, .int x1, .ref a0] (mk S I L R G) Q ↔ S a0 = some (.inr 12) ∧ XC d 154 [.ref a0, .int x1, .int x2, .int x3] (mk S I L R G) (XK (d + 1) 201 22 [v0, v1] [] Q) := c_callV i_201_22 rfl rfl rfl rfl (Nat.le_of_ble_eq_true rfl) (Nat.le_of_ble_eq_true rfl) rfl
theorem q_201_25 : XX d 201 25 [v0, v1] (.int x :: st) A Q ↔ if x = w 0 then XX d 201 30 [v0, v1] st A Q else XX d 201 28 [v0, v1] st A Q := z_eq i_201_25 rfl rfl rfl
theorem q_201_28 : XX d 201 28 [v0, v1] st A Q ↔ XX d 201 29 [v0, v1] (.int (w 0) :: st) A Q := c_stk i_201_28 rfl
theorem q_201_29 : XX d 201 29 [v0, v1] [.int x] A Q ↔ Q (.inl (some (.int x))) A := e_retI i_201_29 rfl
theorem q_201_30 : XX d 201 30 [v0, some (.int x)] st A Q ↔ XX d 201 31 [v0, some (.int x)] (.int x :: st) A Q := c_lcl i_201_30 rfl rfl
theorem q_201_31 : XX d 201 31 [v0, v1] (.int x :: st) A Q ↔ if x = w 0 then XX d 201 34 [v0, v1] st A Q else XX d 201 41 [v0, v1] st A Q := z_ne i_201_31 rfl rfl rfl
theorem q_201_34 : XX d 201 34 [some (.ref a), v1] st A Q ↔ XX d 201 35 [some (.ref a), v1] (.ref a :: st) A Q := c_lcl i_201_34 rfl rfl
theorem q_201_35 : XX d 201 35 [v0, v1] (.ref a :: st) (mk S I L R G) Q ↔ S a = some (.inr 12) ∧ XX d 201 38 [v0, v1] (.int (I a 13) :: st) (mk S I L R G) Q := r_gf i_201_35 rfl (by decide) rfl
theorem q_201_38 : XX d 201 38 [v0, v1] st A Q ↔ XX d 201 73 [v0, v1] st A Q := c_go i_201_38 rfl rfl
theorem q_201_41 : XX d 201 41 [v0, some (.int x)] st A Q ↔ XX d 201 42 [v0, some (.int x)] (.int x :: st) A Q := c_lcl i_201_41 rfl rfl
theorem q_201_42 : XX d 201 42 [v0, v1] st A Q ↔ XX d 201 43 [v0, v1] (.int (w 1) :: st) A Q := c_stk i_201_42 rfl
theorem q_201_43 : XX d 201 43 [v0, v1] (.int y :: .int x :: st) A Q ↔ if x = y then XX d 201 46 [v0, v1] st A Q else XX d 201 53 [v0, v1] st A Q := b_ne i_201_43 rfl rfl rfl
theorem q_201_46 : XX d 201 46 [some (.ref a), v1] st A Q ↔ XX d 201 47 [some (.ref a), v1] (.ref a :: st) A Q := c_lcl i_201_46 rfl rfl
theorem q_201_47 : XX d 201 47 [v0, v1] (.ref a :: st) (mk S I L R G) Q ↔ S a = some (.inr 12) ∧ XX d 201 50 [v0, v1] (.int (I a 2) :: st) (mk S I L R G) Q := r_gf i_201_47 rfl (by decide) rfl
theorem q_201_50 : XX d 201 50 [v0, v1] st A Q ↔ XX d 201 73 [v0, v1] st A Q := c_go i_201_50 rfl rfl
theorem q_201_53 : XX d 201 53 [v0, some (.int x)] st A Q ↔ XX d 201 54 [v0, some (.int x)] (.int x :: st) A Q := c_lcl i_201_53 rfl rfl
theorem q_201_54 : XX d 201 54 [v0, v1] st A Q ↔ XX d 201 55 [v0, v1] (.int (w 2) :: st) A Q := c_stk i_201_54 rfl
theorem q_201_55 : XX d 201 55 [v0, v1] (.int y :: .int x :: st) A Q ↔ if x = y then XX d 201 58 [v0, v1] st A Q else XX d 201 65 [v0, v1] st A Q := b_ne i_201_55 rfl rfl rfl
theorem q_201_58 : XX d 201 58 [some (.ref a), v1] st A Q ↔ XX d 201 59 [some (.ref a), v1] (.ref a :: st) A Q := c_lcl i_201_58 rfl rfl
theorem q_201_59 : XX d 201 59 [v0, v1] (.ref a :: st) (mk S I L R G) Q ↔ S a = some (.inr 12) ∧ XX d 201 62 [v0, v1] (.int (I a 14) :: st) (mk S I L R G) Q := r_gf i_201_59 rfl (by decide) rfl
theorem q_201_62 : XX d 201 62 [v0, v1] st A Q ↔ XX d 201 73 [v0, v1] st A Q := c_go i_201_62 rfl rfl
theorem q_201_65 : XX d 201 65 [some (.ref a), v1] st A Q ↔ XX d 201 66 [some (.ref a), v1] (.ref a :: st) A Q := c_lcl i_201_65 rfl rfl
theorem q_201_66 : XX d 201 66 [v0, v1] (.ref a :: st) (mk S I L R G) Q ↔ S a = some (.inr 12) ∧ XX d 201 69 [v0, v1] (.ref (a + 3) :: st) (mk S I L R G) Q := r_gf i_201_66 rfl (by decide) rfl
theorem q_201_69 : XX d 201 69 [v0, some (.int x)] st A Q ↔ XX d 201 70 [v0, some (.int x)] (.int x :: st) A Q := c_lcl i_201_69 rfl rfl
theorem q_201_70 : XX d 201 70 [v0, v1] st A Q ↔ XX d 201 71 [v0, v1] (.int (w 3) :: st) A Q := c_stk i_201_70 rfl
theorem q_201_71 : XX d 201 71 [v0, v1] (.int y :: .int x :: st) A Q ↔ XX d 201 72 [v0, v1] (.int (x - y) :: st) A Q := c_stk i_201_71 rfl
theorem q_201_72 : XX d 201 72 [v0, v1] (.int x :: .ref a :: st) (mk S I L R G) Q ↔ inA (S a) ok_i x ∧ XX d 201 73 [v0, v1] (.int (I a (ix x)) :: st) (mk S I L R G) Q := r_ia i_201_72
theorem q_201_73 : XX d 201 73 [v0, v1] [.int x] A Q ↔ Q (.inl (some (.int x))) A := e_retI i_201_73 rfl
theorem q_201_e : XC d 201 [.ref a0, .int x1] A Q ↔ XX d 201 0 [some (.ref a0), some (.int x1)] [] A Q := Iff.rfl
theorem i_202_0 : t_ins 202 0 = some (.iconst 0) := by decide +kernel
theorem i_202_1 : t_ins 202 1 = some (.istore_n 3) := by decide +kernel
theorem i_202_2 : t_ins 202 2 = some (.iconst 0) := by decide +kernel
theorem i_202_3 : t_ins 202 3 = some (.istore 4) := by decide +kernel
theorem i_202_5 : t_ins 202 5 = some (.iload 4) := by decide +kernel
theorem i_202_7 : t_ins 202 7 = some (.aload_n 0) := by decide +kernel
theorem i_202_8 : t_ins 202 8 = some (.getfield 36) := by decide +kernel
theorem i_202_11 : t_ins 202 11 = some (.if_icmp .gt 28) := by decide +kernel
theorem i_202_14 : t_ins 202 14 = some (.iload_n 3) := by decide +kernel
theorem i_202_15 : t_ins 202 15 = some (.aload_n 0) := by decide +kernel
theorem i_202_16 : t_ins 202 16 = some (.iload_n 1) := by decide +kernel
theorem i_202_17 : t_ins 202 17 = some (.iload 4) := by decide +kernel
theorem i_202_19 : t_ins 202 19 = some (.invokevirtual 275) := by decide +kernel
theorem i_202_22 : t_ins 202 22 = some (.iload_n 2) := by decide +kernel
theorem i_202_23 : t_ins 202 23 = some (.if_icmp .ne 7) := by decide +kernel
theorem i_202_26 : t_ins 202 26 = some (.iconst 1) := by decide +kernel
theorem i_202_27 : t_ins 202 27 = some (.goto 4) := by decide +kernel
theorem i_202_30 : t_ins 202 30 = some (.iconst 0) := by decide +kernel
theorem i_202_31 : t_ins 202 31 = some (.iadd) := by decide +kernel
theorem i_202_32 : t_ins 202 32 = some (.istore_n 3) := by decide +kernel
theorem i_202_33 : t_ins 202 33 = some (.iinc 4 1) := by decide +kernel
theorem i_202_36 : t_ins 202 36 = some (.goto (-31)) := by decide +kernel
theorem i_202_39 : t_ins 202 39 = some (.iload_n 3) := by decide +kernel
theorem i_202_40 : t_ins 202 40 = some (.ireturn) := by decide +kernel
theorem q_202_0 : XX d 202 0 [v0, v1, v2, v3, v4] st A Q ↔ XX d 202 1 [v0, v1, v2, v3, v4] (.int (w 0) :: st) A Q := c_stk i_202_0 rfl
theorem q_202_1 : XX d 202 1 [v0, v1, some (.int z), v3, v4] (.int x :: st) A Q ↔ XX d 202 2 [v0, v1, some (.int z), some (.int x), v4] st A Q := c_lcl i_202_1 rfl rfl
theorem q_202_2 : XX d 202 2 [v0, v1, v2, v3, v4] st A Q ↔ XX d 202 3 [v0, v1, v2, v3, v4] (.int (w 0) :: st) A Q := c_stk i_202_2 rfl
theorem q_202_3 : XX d 202 3 [v0, v1, v2, some (.int z), v4] (.int x :: st) A Q ↔ XX d 202 5 [v0, v1, v2, some (.int z), some (.int x)] st A Q := c_lcl i_202_3 rfl rfl
theorem q_202_5 : XX d 202 5 [v0, v1, v2, v3, some (.int x)] st A Q ↔ XX d 202 7 [v0, v1, v2, v3, some (.int x)] (.int x :: st) A Q := c_lcl i_202_5 rfl rfl
theorem q_202_7 : XX d 202 7 [some (.ref a), v1, v2, v3, v4] st A Q ↔ XX d 202 8 [some (.ref a), v1, v2, v3, v4] (.ref a :: st) A Q := c_lcl i_202_7 rfl rfl
theorem q_202_8 : XX d 202 8 [v0, v1, v2, v3, v4] (.ref a :: st) (mk S I L R G) Q ↔ S a = some (.inr 12) ∧ XX d 202 11 [v0, v1, v2, v3, v4] (.int (I a 13) :: st) (mk S I L R G) Q := r_gf i_202_8 rfl (by decide) rfl
theorem q_202_11 : XX d 202 11 [v0, v1, v2, v3, v4] (.int y :: .int x :: st) A Q ↔ if y < x then XX d 202 39 [v0, v1, v2, v3, v4] st A Q else XX d 202 14 [v0, v1, v2, v3, v4] st A Q := b_gt i_202_11 rfl rfl rfl
theorem q_202_14 : XX d 202 14 [v0, v1, v2, some (.int x), v4] st A Q ↔ XX d 202 15 [v0, v1, v2, some (.int x), v4] (.int x :: st) A Q := c_lcl i_202_14 rfl rfl
theorem q_202_15 : XX d 202 15 [some (.ref a), v1, v2, v3, v4] st A Q ↔ XX d 202 16 [some (.ref a), v1, v2, v3, v4] (.ref a :: st) A Q := c_lcl i_202_15 rfl rfl
theorem q_202_16 : XX d 202 16 [v0, some (.int x), v2, v3, v4] st A Q ↔ XX d 202 17 [v0, some (.int x), v2, v3, v4] (.int x :: st) A Q := c_lcl i_202_16 rfl rfl
theorem q_202_17 : XX d 202 17 [v0, v1, v2, v3, some (.int x)] st A Q ↔ XX d 202 19 [v0, v1, v2, v3, some (.int x)] (.int x :: st) A Q := c_lcl i_202_17 rfl rfl
theorem q_202_19 : XX (d + 1) 202 19 [v0, v1, v2, v3, v4] [.int x2, .int x1, .ref a0, .int x3] (mk S I L R G) Q ↔ S a0 = some (.inr 12) ∧ XC d 187 [.ref a0, .int x1, .int x2] (mk S I L R G) (XK (d + 1) 202 19 [v0, v1, v2, v3, v4] [.int x3] Q) := c_callV i_202_19 rfl rfl rfl rfl (Nat.le_of_ble_eq_true rfl) (Nat.le_of_ble_eq_true rfl) rfl
theorem q_202_22 : XX d 202 22 [v0, v1, some (.int x), v3, v4] st A Q ↔ XX d 202 23 [v0, v1, some (.int x), v3, v4] (.int x :: st) A Q := c_lcl i_202_22 rfl rfl
theorem q_202_23 : XX d 202 23 [v0, v1, v2, v3, v4] (.int y :: .int x :: st) A Q ↔ if x = y then XX d 202 26 [v0, v1, v2, v3, v4] st A Q else XX d 202 30 [v0, v1, v2, v3, v4] st A Q := b_ne i_202_23 rfl rfl rfl
theorem q_202_26 : XX d 202 26 [v0, v1, v2, v3, v4] st A Q ↔ XX d 202 27 [v0, v1, v2, v3, v4] (.int (w 1) :: st) A Q := c_stk i_202_26 rfl
theorem q_202_27 : XX d 202 27 [v0, v1, v2, v3, v4] st A Q ↔ XX d 202 31 [v0, v1, v2, v3, v4] st A Q := c_go i_202_27 rfl rfl
theorem q_202_30 : XX d 202 30 [v0, v1, v2, v3, v4] st A Q ↔ XX d 202 31 [v0, v1, v2, v3, v4] (.int (w 0) :: st) A Q := c_stk i_202_30 rfl
theorem q_202_31 : XX d 202 31 [v0, v1, v2, v3, v4] (.int y :: .int x :: st) A Q ↔ XX d 202 32 [v0, v1, v2, v3, v4] (.int (x + y) :: st) A Q := c_stk i_202_31 rfl
theorem q_202_32 : XX d 202 32 [v0, v1, some (.int z), v3, v4] (.int x :: st) A Q ↔ XX d 202 33 [v0, v1, some (.int z), some (.int x), v4] st A Q := c_lcl i_202_32 rfl rfl
theorem q_202_33 : XX d 202 33 [v0, v1, v2, some (.int z), some (.int x)] st A Q ↔ XX d 202 36 [v0, v1, v2, some (.int z), some (.int (x + w 1))] st A Q := c_lcl i_202_33 rfl rfl
theorem q_202_36 : XX d 202 36 [v0, v1, v2, v3, v4] st A Q ↔ XX d 202 5 [v0, v1, v2, v3, v4] st A Q := c_go i_202_36 rfl rfl
theorem q_202_39 : XX d 202 39 [v0, v1, v2, some (.int x), v4] st A Q ↔ XX d 202 40 [v0, v1, v2, some (.int x), v4] (.int x :: st) A Q := c_lcl i_202_39 rfl rfl
theorem q_202_40 : XX d 202 40 [v0, v1, v2, v3, v4] [.int x] A Q ↔ Q (.inl (some (.int x))) A := e_retI i_202_40 rfl
theorem q_202_e : XC d 202 [.ref a0, .int x1, .int x2] A Q ↔ XX d 202 0 [some (.ref a0), some (.int x1), some (.int x2), none, none] [] A Q := Iff.rfl
theorem i_203_0 : t_ins 203 0 = some (.aload_n 0) := by decide +kernel
theorem i_203_1 : t_ins 203 1 = some (.iconst 0) := by decide +kernel
theorem i_203_2 : t_ins 203 2 = some (.putfield 121) := by decide +kernel
theorem i_203_5 : t_ins 203 5 = some (.aload_n 0) := by decide +kernel
theorem i_203_6 : t_ins 203 6 = some (.aload_n 0) := by decide +kernel
theorem i_203_7 : t_ins 203 7 = some (.iload_n 1) := by decide +kernel
theorem i_203_8 : t_ins 203 8 = some (.iload_n 2) := by decide +kernel
theorem i_203_9 : t_ins 203 9 = some (.invokevirtual 248) := by decide +kernel
theorem i_203_12 : t_ins 203 12 = some (.ifCond .ne 7) := by decide +kernel
theorem i_203_15 : t_ins 203 15 = some (.iconst 1) := by decide +kernel
theorem i_203_16 : t_ins 203 16 = some (.goto 4) := by decide +kernel
theorem i_203_19 : t_ins 203 19 = some (.iconst 0) := by decide +kernel
theorem i_203_20 : t_ins 203 20 = some (.iconst 1) := by decide +kernel
theorem i_203_21 : t_ins 203 21 = some (.iconst 0) := by decide +kernel
theorem i_203_22 : t_ins 203 22 = some (.invokevirtual 234) := by decide +kernel
theorem i_203_25 : t_ins 203 25 = some (.ifCond .ne 26) := by decide +kernel
theorem i_203_28 : t_ins 203 28 = some (.aload_n 0) := by decide +kernel
theorem i_203_29 : t_ins 203 29 = some (.iload_n 3) := by decide +kernel
theorem i_203_30 : t_ins 203 30 = some (.iconst 0) := by decide +kernel
theorem i_203_31 : t_ins 203 31 = some (.iconst 5) := by decide +kernel
theorem i_203_32 : t_ins 203 32 = some (.invokestatic 230) := by decide +kernel
theorem i_203_35 : t_ins 203 35 = some (.ifCond .ne 7) := by decide +kernel
theorem i_203_38 : t_ins 203 38 = some (.iconst 1) := by decide +kernel
theorem i_203_39 : t_ins 203 39 = some (.goto 4) := by decide +kernel
theorem i_203_42 : t_ins 203 42 = some (.iconst 0) := by decide +kernel
theorem i_203_43 : t_ins 203 43 = some (.iconst 2) := by decide +kernel
theorem i_203_44 : t_ins 203 44 = some (.iconst 1) := by decide +kernel
theorem i_203_45 : t_ins 203 45 = some (.invokevirtual 234) := by decide +kernel
theorem i_203_48 : t_ins 203 48 = some (.ifCond .eq 5) := by decide +kernel
theorem i_203_51 : t_ins 203 51 = some (.iconst 0) := by decide +kernel
theorem i_203_52 : t_ins 203 52 = some (.ireturn) := by decide +kernel
theorem i_203_53 : t_ins 203 53 = some (.iload_n 3) := by decide +kernel
theorem i_203_54 : t_ins 203 54 = some (.iconst 5) := by decide +kernel
theorem i_203_55 : t_ins 203 55 = some (.if_icmp .ge 16) := by decide +kernel
theorem i_203_58 : t_ins 203 58 = some (.aload_n 0) := by decide +kernel
theorem i_203_59 : t_ins 203 59 = some (.getfield 28) := by decide +kernel
theorem i_203_62 : t_ins 203 62 = some (.iload_n 1) := by decide +kernel
theorem i_203_63 : t_ins 203 63 = some (.aaload) := by decide +kernel
theorem i_203_64 : t_ins 203 64 = some (.iload_n 2) := by decide +kernel
theorem i_203_65 : t_ins 203 65 = some (.aaload) := by decide +kernel
theorem i_203_66 : t_ins 203 66 = some (.iload_n 3) := by decide +kernel
theorem i_203_67 : t_ins 203 67 = some (.iaload) := by decide +kernel
theorem i_203_68 : t_ins 203 68 = some (.goto 9) := by decide +kernel
theorem i_203_71 : t_ins 203 71 = some (.aload_n 0) := by decide +kernel
theorem i_203_72 : t_ins 203 72 = some (.iload_n 1) := by decide +kernel
theorem i_203_73 : t_ins 203 73 = some (.iload_n 2) := by decide +kernel
theorem i_203_74 : t_ins 203 74 = some (.invokevirtual 317) := by decide +kernel
theorem i_203_77 : t_ins 203 77 = some (.ireturn) := by decide +kernel
theorem q_203_0 : XX d 203 0 [some (.ref a), v1, v2, v3] st A Q ↔ XX d 203 1 [some (.ref a), v1, v2, v3] (.ref a :: st) A Q := c_lcl i_203_0 rfl rfl
theorem q_203_1 : XX d 203 1 [v0, v1, v2, v3] st A Q ↔ XX d 203 2 [v0, v1, v2, v3] (.int (w 0) :: st) A Q := c_stk i_203_1 rfl
theorem q_203_2 : XX d 203 2 [v0, v1, v2, v3] (.int x :: .ref a :: st) (mk S I L R G) Q ↔ S a = some (.inr 12) ∧ XX d 203 5 [v0, v1, v2, v3] st (mk S (wr I a (up (I a) 0 x)) L R G) Q := r_pf i_203_2 rfl (by decide) rfl rfl rfl
theorem q_203_5 : XX d 203 5 [some (.ref a), v1, v2, v3] st A Q ↔ XX d 203 6 [some (.ref a), v1, v2, v3] (.ref a :: st) A Q := c_lcl i_203_5 rfl rfl
theorem q_203_6 : XX d 203 6 [some (.ref a), v1, v2, v3] st A Q ↔ XX d 203 7 [some (.ref a), v1, v2, v3] (.ref a :: st) A Q := c_lcl i_203_6 rfl rfl
theorem q_203_7 : XX d 203 7 [v0, some (.int x), v2, v3] st A Q ↔ XX d 203 8 [v0, some (.int x), v2, v3] (.int x :: st) A Q := c_lcl i_203_7 rfl rfl
theorem q_203_8 : XX d 203 8 [v0, v1, some (.int x), v3] st A Q ↔ XX d 203 9 [v0, v1, some (.int x), v3] (.int x :: st) A Q := c_lcl i_203_8 rfl rfl
theorem q_203_9 : XX (d + 1) 203 9 [v0, v1, v2, v3] [.int x2, .int x1, .ref a0, .ref a3] (mk S I L R G) Q ↔ S a0 = some (.inr 12) ∧ XC d 183 [.ref a0, .int x1, .int x2] (mk S I L R G) (XK (d + 1) 203 9 [v0, v1, v2, v3] [.ref a3] Q) := c_callV i_203_9 rfl rfl rfl rfl (Nat.le_of_ble_eq_true rfl) (Nat.le_of_ble_eq_true rfl) rfl
theorem q_203_12 : XX d 203 12 [v0, v1, v2, v3] (.int x :: st) A Q ↔ if x = w 0 then XX d 203 15 [v0, v1, v2, v3] st A Q else XX d 203 19 [v0, v1, v2, v3] st A Q := z_ne i_203_12 rfl rfl rfl
theorem q_203_15 : XX d 203 15 [v0, v1, v2, v3] st A Q ↔ XX d 203 16 [v0, v1, v2, v3] (.int (w 1) :: st) A Q := c_stk i_203_15 rfl
theorem q_203_16 : XX d 203 16 [v0, v1, v2, v3] st A Q ↔ XX d 203 20 [v0, v1, v2, v3] st A Q := c_go i_203_16 rfl rfl
theorem q_203_19 : XX d 203 19 [v0, v1, v2, v3] st A Q ↔ XX d 203 20 [v0, v1, v2, v3] (.int (w 0) :: st) A Q := c_stk i_203_19 rfl
theorem q_203_20 : XX d 203 20 [v0, v1, v2, v3] st A Q ↔ XX d 203 21 [v0, v1, v2, v3] (.int (w 1) :: st) A Q := c_stk i_203_20 rfl
theorem q_203_21 : XX d 203 21 [v0, v1, v2, v3] st A Q ↔ XX d 203 22 [v0, v1, v2, v3] (.int (w 0) :: st) A Q := c_stk i_203_21 rfl
theorem q_203_22 : XX (d + 1) 203 22 [v0, v1, v2, v3] [.int x3, .int x2, .int x1, .ref a0] (mk S I L R G) Q ↔ S a0 = some (.inr 12) ∧ XC d 154 [.ref a0, .int x1, .int x2, .int x3] (mk S I L R G) (XK (d + 1) 203 22 [v0, v1, v2, v3] [] Q) := c_callV i_203_22 rfl rfl rfl rfl (Nat.le_of_ble_eq_true rfl) (Nat.le_of_ble_eq_true rfl) rfl
theorem q_203_25 : XX d 203 25 [v0, v1, v2, v3] (.int x :: st) A Q ↔ if x = w 0 then XX d 203 28 [v0, v1, v2, v3] st A Q else XX d 203 51 [v0, v1, v2, v3] st A Q := z_ne i_203_25 rfl rfl rfl
theorem q_203_28 : XX d 203 28 [some (.ref a), v1, v2, v3] st A Q ↔ XX d 203 29 [some (.ref a), v1, v2, v3] (.ref a :: st) A Q := c_lcl i_203_28 rfl rfl
theorem q_203_29 : XX d 203 29 [v0, v1, v2, some (.int x)] st A Q ↔ XX d 203 30 [v0, v1, v2, some (.int x)] (.int x :: st) A Q := c_lcl i_203_29 rfl rfl
theorem q_203_30 : XX d 203 30 [v0, v1, v2, v3] st A Q ↔ XX d 203 31 [v0, v1, v2, v3] (.int (w 0) :: st) A Q := c_stk i_203_30 rfl
theorem q_203_31 : XX d 203 31 [v0, v1, v2, v3] st A Q ↔ XX d 203 32 [v0, v1, v2, v3] (.int (w 5) :: st) A Q := c_stk i_203_31 rfl
theorem q_203_32 : XX (d + 1) 203 32 [v0, v1, v2, v3] [.int x2, .int x1, .int x0, .ref a3] A Q ↔ XC d 155 [.int x0, .int x1, .int x2] A (XK (d + 1) 203 32 [v0, v1, v2, v3] [.ref a3] Q) := c_callS i_203_32 rfl rfl rfl rfl (Nat.le_of_ble_eq_true rfl) (Nat.le_of_ble_eq_true rfl)
theorem q_203_35 : XX d 203 35 [v0, v1, v2, v3] (.int x :: st) A Q ↔ if x = w 0 then XX d 203 38 [v0, v1, v2, v3] st A Q else XX d 203 42 [v0, v1, v2, v3] st A Q := z_ne i_203_35 rfl rfl rfl
theorem q_203_38 : XX d 203 38 [v0, v1, v2, v3] st A Q ↔ XX d 203 39 [v0, v1, v2, v3] (.int (w 1) :: st) A Q := c_stk i_203_38 rfl
theorem q_203_39 : XX d 203 39 [v0, v1, v2, v3] st A Q ↔ XX d 203 43 [v0, v1, v2, v3] st A Q := c_go i_203_39 rfl rfl
theorem q_203_42 : XX d 203 42 [v0, v1, v2, v3] st A Q ↔ XX d 203 43 [v0, v1, v2, v3] (.int (w 0) :: st) A Q := c_stk i_203_42 rfl
theorem q_203_43 : XX d 203 43 [v0, v1, v2, v3] st A Q ↔ XX d 203 44 [v0, v1, v2, v3] (.int (w 2) :: st) A Q := c_stk i_203_43 rfl
theorem q_203_44 : XX d 203 44 [v0, v1, v2, v3] st A Q ↔ XX d 203 45 [v0, v1, v2, v3] (.int (w 1) :: st) A Q := c_stk i_203_44 rfl
theorem q_203_45 : XX (d + 1) 203 45 [v0, v1, v2, v3] [.int x3, .int x2, .int x1, .ref a0] (mk S I L R G) Q ↔ S a0 = some (.inr 12) ∧ XC d 154 [.ref a0, .int x1, .int x2, .int x3] (mk S I L R G) (XK (d + 1) 203 45 [v0, v1, v2, v3] [] Q) := c_callV i_203_45 rfl rfl rfl rfl (Nat.le_of_ble_eq_true rfl) (Nat.le_of_ble_eq_true rfl) rfl
theorem q_203_48 : XX d 203 48 [v0, v1, v2, v3] (.int x :: st) A Q ↔ if x = w 0 then XX d 203 53 [v0, v1, v2, v3] st A Q else XX d 203 51 [v0, v1, v2, v3] st A Q := z_eq i_203_48 rfl rfl rfl
theorem q_203_51 : XX d 203 51 [v0, v1, v2, v3] st A Q ↔ XX d 203 52 [v0, v1, v2, v3] (.int (w 0) :: st) A Q := c_stk i_203_51 rfl
theorem q_203_52 : XX d 203 52 [v0, v1, v2, v3] [.int x] A Q ↔ Q (.inl (some (.int x))) A := e_retI i_203_52 rfl
theorem q_203_53 : XX d 203 53 [v0, v1, v2, some (.int x)] st A Q ↔ XX d 203 54 [v0, v1, v2, some (.int x)] (.int x :: st) A Q := c_lcl i_203_53 rfl rfl
theorem q_203_54 : XX d 203 54 [v0, v1, v2, v3] st A Q ↔ XX d 203 55 [v0, v1, v2, v3] (.int (w 5) :: st) A Q := c_stk i_203_54 rfl
theorem q_203_55 : XX d 203 55 [v0, v1, v2, v3] (.int y :: .int x :: st) A Q ↔ if x < y then XX d 203 58 [v0, v1, v2, v3] st A Q else XX d 203 71 [v0, v1, v2, v3] st A Q := b_ge i_203_55 rfl rfl rfl
theorem q_203_58 : XX d 203 58 [some (.ref a), v1, v2, v3] st A Q ↔ XX d 203 59 [some (.ref a), v1, v2, v3] (.ref a :: st) A Q := c_lcl i_203_58 rfl rfl
theorem q_203_59 : XX d 203 59 [v0, v1, v2, v3] (.ref a :: st) (mk S I L R G) Q ↔ S a = some (.inr 12) ∧ XX d 203 62 [v0, v1, v2, v3] (.ref (a + 5) :: st) (mk S I L R G) Q := r_gf i_203_59 rfl (by decide) rfl
theorem q_203_62 : XX d 203 62 [v0, some (.int x), v2, v3] st A Q ↔ XX d 203 63 [v0, some (.int x), v2, v3] (.int x :: st) A Q := c_lcl i_203_62 rfl rfl
theorem q_203_63 : XX d 203 63 [v0, v1, v2, v3] (.int x :: .ref a :: st) (mk S I L R G) Q ↔ inA (S a) ok_q x ∧ XX d 203 64 [v0, v1, v2, v3] (va_rf (R a (ix x)) :: st) (mk S I L R G) Q := r_aq i_203_63
theorem q_203_64 : XX d 203 64 [v0, v1, some (.int x), v3] st A Q ↔ XX d 203 65 [v0, v1, some (.int x), v3] (.int x :: st) A Q := c_lcl i_203_64 rfl rfl
theorem q_203_65 : XX d 203 65 [v0, v1, v2, v3] (.int x :: .ref a :: st) (mk S I L R G) Q ↔ inA (S a) ok_q x ∧ XX d 203 66 [v0, v1, v2, v3] (va_rf (R a (ix x)) :: st) (mk S I L R G) Q := r_aq i_203_65
theorem q_203_66 : XX d 203 66 [v0, v1, v2, some (.int x)] st A Q ↔ XX d 203 67 [v0, v1, v2, some (.int x)] (.int x :: st) A Q := c_lcl i_203_66 rfl rfl
theorem q_203_67 : XX d 203 67 [v0, v1, v2, v3] (.int x :: .ref a :: st) (mk S I L R G) Q ↔ inA (S a) ok_i x ∧ XX d 203 68 [v0, v1, v2, v3] (.int (I a (ix x)) :: st) (mk S I L R G) Q := r_ia i_203_67
theorem q_203_68 : XX d 203 68 [v0, v1, v2, v3] st A Q ↔ XX d 203 77 [v0, v1, v2, v3] st A Q := c_go i_203_68 rfl rfl
theorem q_203_71 : XX d 203 71 [some (.ref a), v1, v2, v3] st A Q ↔ XX d 203 72 [some (.ref a), v1, v2, v3] (.ref a :: st) A Q := c_lcl i_203_71 rfl rfl
theorem q_203_72 : XX d 203 72 [v0, some (.int x), v2, v3] st A Q ↔ XX d 203 73 [v0, some (.int x), v2, v3] (.int x :: st) A Q := c_lcl i_203_72 rfl rfl
theorem q_203_73 : XX d 203 73 [v0, v1, some (.int x), v3] st A Q ↔ XX d 203 74 [v0, v1, some (.int x), v3] (.int x :: st) A Q := c_lcl i_203_73 rfl rfl
theorem q_203_74 : XX (d + 1) 203 74 [v0, v1, v2, v3] [.int x2, .int x1, .ref a0] (mk S I L R G) Q ↔ S a0 = some (.inr 12) ∧ XC d 202 [.ref a0, .int x1, .int x2] (mk S I L R G) (XK (d + 1) 203 74 [v0, v1, v2, v3] [] Q) := c_callV i_203_74 rfl rfl rfl rfl (Nat.le_of_ble_eq_true rfl) (Nat.le_of_ble_eq_true rfl) rfl
theorem q_203_77 : XX d 203 77 [v0, v1, v2, v3] [.int x] A Q ↔ Q (.inl (some (.int x))) A := e_retI i_203_77 rfl
theorem q_203_e : XC d 203 [.ref a0, .int x1, .int x2, .int x3] A Q ↔ XX d 203 0 [some (.ref a0), some (.int x1), some (.int x2), some (.int x3)] [] A Q := Iff.rfl
theorem i_204_0 : t_ins 204 0 = some (.aload_n 0) := by decide +kernel
theorem i_204_1 : t_ins 204 1 = some (.iconst 0) := by decide +kernel
theorem i_204_2 : t_ins 204 2 = some (.putfield 121) := by decide +kernel
theorem i_204_5 : t_ins 204 5 = some (.aload_n 0) := by decide +kernel
theorem i_204_6 : t_ins 204 6 = some (.iload_n 1) := by decide +kernel
theorem i_204_7 : t_ins 204 7 = some (.iload_n 2) := by decide +kernel
theorem i_204_8 : t_ins 204 8 = some (.invokevirtual 248) := by decide +kernel
theorem i_204_11 : t_ins 204 11 = some (.ifCond .eq 27) := by decide +kernel
theorem i_204_14 : t_ins 204 14 = some (.iload_n 3) := by decide +kernel
theorem i_204_15 : t_ins 204 15 = some (.iconst 0) := by decide +kernel
theorem i_204_16 : t_ins 204 16 = some (.aload_n 0) := by decide +kernel
theorem i_204_17 : t_ins 204 17 = some (.getfield 28) := by decide +kernel
theorem i_204_20 : t_ins 204 20 = some (.iload_n 1) := by decide +kernel
theorem i_204_21 : t_ins 204 21 = some (.aaload) := by decide +kernel
theorem i_204_22 : t_ins 204 22 = some (.iload_n 2) := by decide +kernel
theorem i_204_23 : t_ins 204 23 = some (.aaload) := by decide +kernel
theorem i_204_24 : t_ins 204 24 = some (.iconst 4) := by decide +kernel
theorem i_204_25 : t_ins 204 25 = some (.iaload) := by decide +kernel
theorem i_204_26 : t_ins 204 26 = some (.iconst 1) := by decide +kernel
theorem i_204_27 : t_ins 204 27 = some (.isub) := by decide +kernel
theorem i_204_28 : t_ins 204 28 = some (.invokestatic 230) := by decide +kernel
theorem i_204_31 : t_ins 204 31 = some (.ifCond .eq 7) := by decide +kernel
theorem i_204_34 : t_ins 204 34 = some (.iconst 1) := by decide +kernel
theorem i_204_35 : t_ins 204 35 = some (.goto 4) := by decide +kernel
theorem i_204_38 : t_ins 204 38 = some (.iconst 0) := by decide +kernel
theorem i_204_39 : t_ins 204 39 = some (.istore 5) := by decide +kernel
theorem i_204_41 : t_ins 204 41 = some (.aload_n 0) := by decide +kernel
theorem i_204_42 : t_ins 204 42 = some (.iload 5) := by decide +kernel
theorem i_204_44 : t_ins 204 44 = some (.ifCond .ne 7) := by decide +kernel
theorem i_204_47 : t_ins 204 47 = some (.iconst 1) := by decide +kernel
theorem i_204_48 : t_ins 204 48 = some (.goto 4) := by decide +kernel
theorem i_204_51 : t_ins 204 51 = some (.iconst 0) := by decide +kernel
theorem i_204_52 : t_ins 204 52 = some (.iconst 1) := by decide +kernel
theorem i_204_53 : t_ins 204 53 = some (.iconst 0) := by decide +kernel
theorem i_204_54 : t_ins 204 54 = some (.invokevirtual 234) := by decide +kernel
theorem i_204_57 : t_ins 204 57 = some (.ifCond .ne 27) := by decide +kernel
theorem i_204_60 : t_ins 204 60 = some (.aload_n 0) := by decide +kernel
theorem i_204_61 : t_ins 204 61 = some (.iload 4) := by decide +kernel
theorem i_204_63 : t_ins 204 63 = some (.iconst 0) := by decide +kernel
theorem i_204_64 : t_ins 204 64 = some (.iconst 1) := by decide +kernel
theorem i_204_65 : t_ins 204 65 = some (.invokestatic 230) := by decide +kernel
theorem i_204_68 : t_ins 204 68 = some (.ifCond .ne 7) := by decide +kernel
theorem i_204_71 : t_ins 204 71 = some (.iconst 1) := by decide +kernel
theorem i_204_72 : t_ins 204 72 = some (.goto 4) := by decide +kernel
theorem i_204_75 : t_ins 204 75 = some (.iconst 0) := by decide +kernel
theorem i_204_76 : t_ins 204 76 = some (.iconst 2) := by decide +kernel
theorem i_204_77 : t_ins 204 77 = some (.iconst 1) := by decide +kernel
theorem i_204_78 : t_ins 204 78 = some (.invokevirtual 234) := by decide +kernel
theorem i_204_81 : t_ins 204 81 = some (.ifCond .eq 5) := by decide +kernel
theorem i_204_84 : t_ins 204 84 = some (.iconst 0) := by decide +kernel
theorem i_204_85 : t_ins 204 85 = some (.ireturn) := by decide +kernel
theorem i_204_86 : t_ins 204 86 = some (.aload_n 0) := by decide +kernel
theorem i_204_87 : t_ins 204 87 = some (.getfield 28) := by decide +kernel
theorem i_204_90 : t_ins 204 90 = some (.iload_n 1) := by decide +kernel
theorem i_204_91 : t_ins 204 91 = some (.aaload) := by decide +kernel
theorem i_204_92 : t_ins 204 92 = some (.iload_n 2) := by decide +kernel
theorem i_204_93 : t_ins 204 93 = some (.aaload) := by decide +kernel
theorem i_204_94 : t_ins 204 94 = some (.iconst 5) := by decide +kernel
theorem i_204_95 : t_ins 204 95 = some (.iconst 2) := by decide +kernel
theorem i_204_96 : t_ins 204 96 = some (.iload_n 3) := by decide +kernel
theorem i_204_97 : t_ins 204 97 = some (.imul) := by decide +kernel
theorem i_204_98 : t_ins 204 98 = some (.iadd) := by decide +kernel
theorem i_204_99 : t_ins 204 99 = some (.iload 4) := by decide +kernel
theorem i_204_101 : t_ins 204 101 = some (.iadd) := by decide +kernel
theorem i_204_102 : t_ins 204 102 = some (.iaload) := by decide +kernel
theorem i_204_103 : t_ins 204 103 = some (.ireturn) := by decide +kernel
theorem q_204_0 : XX d 204 0 [some (.ref a), v1, v2, v3, v4, v5] st A Q ↔ XX d 204 1 [some (.ref a), v1, v2, v3, v4, v5] (.ref a :: st) A Q := c_lcl i_204_0 rfl rfl
theorem q_204_1 : XX d 204 1 [v0, v1, v2, v3, v4, v5] st A Q ↔ XX d 204 2 [v0, v1, v2, v3, v4, v5] (.int (w 0) :: st) A Q := c_stk i_204_1 rfl
theorem q_204_2 : XX d 204 2 [v0, v1, v2, v3, v4, v5] (.int x :: .ref a :: st) (mk S I L R G) Q ↔ S a = some (.inr 12) ∧ XX d 204 5 [v0, v1, v2, v3, v4, v5] st (mk S (wr I a (up (I a) 0 x)) L R G) Q := r_pf i_204_2 rfl (by decide) rfl rfl rfl
theorem q_204_5 : XX d 204 5 [some (.ref a), v1, v2, v3, v4, v5] st A Q ↔ XX d 204 6 [some (.ref a), v1, v2, v3, v4, v5] (.ref a :: st) A Q := c_lcl i_204_5 rfl rfl
theorem q_204_6 : XX d 204 6 [v0, some (.int x), v2, v3, v4, v5] st A Q ↔ XX d 204 7 [v0, some (.int x), v2, v3, v4, v5] (.int x :: st) A Q := c_lcl i_204_6 rfl rfl
theorem q_204_7 : XX d 204 7 [v0, v1, some (.int x), v3, v4, v5] st A Q ↔ XX d 204 8 [v0, v1, some (.int x), v3, v4, v5] (.int x :: st) A Q := c_lcl i_204_7 rfl rfl
theorem q_204_8 : XX (d + 1) 204 8 [v0, v1, v2, v3, v4, v5] [.int x2, .int x1, .ref a0] (mk S I L R G) Q ↔ S a0 = some (.inr 12) ∧ XC d 183 [.ref a0, .int x1, .int x2] (mk S I L R G) (XK (d + 1) 204 8 [v0, v1, v2, v3, v4, v5] [] Q) := c_callV i_204_8 rfl rfl rfl rfl (Nat.le_of_ble_eq_true rfl) (Nat.le_of_ble_eq_true rfl) rfl
theorem q_204_11 : XX d 204 11 [v0, v1, v2, v3, v4, v5] (.int x :: st) A Q ↔ if x = w 0 then XX d 204 38 [v0, v1, v2, v3, v4, v5] st A Q else XX d 204 14 [v0, v1, v2, v3, v4, v5] st A Q := z_eq i_204_11 rfl rfl rfl
theorem q_204_14 : XX d 204 14 [v0, v1, v2, some (.int x), v4, v5] st A Q ↔ XX d 204 15 [v0, v1, v2, some (.int x), v4, v5] (.int x :: st) A Q := c_lcl i_204_14 rfl rfl
theorem q_204_15 : XX d 204 15 [v0, v1, v2, v3, v4, v5] st A Q ↔ XX d 204 16 [v0, v1, v2, v3, v4, v5] (.int (w 0) :: st) A Q := c_stk i_204_15 rfl
theorem q_204_16 : XX d 204 16 [some (.ref a), v1, v2, v3, v4, v5] st A Q ↔ XX d 204 17 [some (.ref a), v1, v2, v3, v4, v5] (.ref a :: st) A Q := c_lcl i_204_16 rfl rfl
theorem q_204_17 : XX d 204 17 [v0, v1, v2, v3, v4, v5] (.ref a :: st) (mk S I L R G) Q ↔ S a = some (.inr 12) ∧ XX d 204 20 [v0, v1, v2, v3, v4, v5] (.ref (a + 5) :: st) (mk S I L R G) Q := r_gf i_204_17 rfl (by decide) rfl
theorem q_204_20 : XX d 204 20 [v0, some (.int x), v2, v3, v4, v5] st A Q ↔ XX d 204 21 [v0, some (.int x), v2, v3, v4, v5] (.int x :: st) A Q := c_lcl i_204_20 rfl rfl
theorem q_204_21 : XX d 204 21 [v0, v1, v2, v3, v4, v5] (.int x :: .ref a :: st) (mk S I L R G) Q ↔ inA (S a) ok_q x ∧ XX d 204 22 [v0, v1, v2, v3, v4, v5] (va_rf (R a (ix x)) :: st) (mk S I L R G) Q := r_aq i_204_21
theorem q_204_22 : XX d 204 22 [v0, v1, some (.int x), v3, v4, v5] st A Q ↔ XX d 204 23 [v0, v1, some (.int x), v3, v4, v5] (.int x :: st) A Q := c_lcl i_204_22 rfl rfl
theorem q_204_23 : XX d 204 23 [v0, v1, v2, v3, v4, v5] (.int x :: .ref a :: st) (mk S I L R G) Q ↔ inA (S a) ok_q x ∧ XX d 204 24 [v0, v1, v2, v3, v4, v5] (va_rf (R a (ix x)) :: st) (mk S I L R G) Q := r_aq i_204_23
theorem q_204_24 : XX d 204 24 [v0, v1, v2, v3, v4, v5] st A Q ↔ XX d 204 25 [v0, v1, v2, v3, v4, v5] (.int (w 4) :: st) A Q := c_stk i_204_24 rfl
theorem q_204_25 : XX d 204 25 [v0, v1, v2, v3, v4, v5] (.int x :: .ref a :: st) (mk S I L R G) Q ↔ inA (S a) ok_i x ∧ XX d 204 26 [v0, v1, v2, v3, v4, v5] (.int (I a (ix x)) :: st) (mk S I L R G) Q := r_ia i_204_25
theorem q_204_26 : XX d 204 26 [v0, v1, v2, v3, v4, v5] st A Q ↔ XX d 204 27 [v0, v1, v2, v3, v4, v5] (.int (w 1) :: st) A Q := c_stk i_204_26 rfl
theorem q_204_27 : XX d 204 27 [v0, v1, v2, v3, v4, v5] (.int y :: .int x :: st) A Q ↔ XX d 204 28 [v0, v1, v2, v3, v4, v5] (.int (x - y) :: st) A Q := c_stk i_204_27 rfl
theorem q_204_28 : XX (d + 1) 204 28 [v0, v1, v2, v3, v4, v5] [.int x2, .int x1, .int x0] A Q ↔ XC d 155 [.int x0, .int x1, .int x2] A (XK (d + 1) 204 28 [v0, v1, v2, v3, v4, v5] [] Q) := c_callS i_204_28 rfl rfl rfl rfl (Nat.le_of_ble_eq_true rfl) (Nat.le_of_ble_eq_true rfl)
theorem q_204_31 : XX d 204 31 [v0, v1, v2, v3, v4, v5] (.int x :: st) A Q ↔ if x = w 0 then XX d 204 38 [v0, v1, v2, v3, v4, v5] st A Q else XX d 204 34 [v0, v1, v2, v3, v4, v5] st A Q := z_eq i_204_31 rfl rfl rfl
theorem q_204_34 : XX d 204 34 [v0, v1, v2, v3, v4, v5] st A Q ↔ XX d 204 35 [v0, v1, v2, v3, v4, v5] (.int (w 1) :: st) A Q := c_stk i_204_34 rfl
theorem q_204_35 : XX d 204 35 [v0, v1, v2, v3, v4, v5] st A Q ↔ XX d 204 39 [v0, v1, v2, v3, v4, v5] st A Q := c_go i_204_35 rfl rfl
theorem q_204_38 : XX d 204 38 [v0, v1, v2, v3, v4, v5] st A Q ↔ XX d 204 39 [v0, v1, v2, v3, v4, v5] (.int (w 0) :: st) A Q := c_stk i_204_38 rfl
theorem q_204_39 : XX d 204 39 [v0, v1, v2, v3, some (.int z), v5] (.int x :: st) A Q ↔ XX d 204 41 [v0, v1, v2, v3, some (.int z), some (.int x)] st A Q := c_lcl i_204_39 rfl rfl
theorem q_204_41 : XX d 204 41 [some (.ref a), v1, v2, v3, v4, v5] st A Q ↔ XX d 204 42 [some (.ref a), v1, v2, v3, v4, v5] (.ref a :: st) A Q := c_lcl i_204_41 rfl rfl
theorem q_204_42 : XX d 204 42 [v0, v1, v2, v3, v4, some (.int x)] st A Q ↔ XX d 204 44 [v0, v1, v2, v3, v4, some (.int x)] (.int x :: st) A Q := c_lcl i_204_42 rfl rfl
theorem q_204_44 : XX d 204 44 [v0, v1, v2, v3, v4, v5] (.int x :: st) A Q ↔ if x = w 0 then XX d 204 47 [v0, v1, v2, v3, v4, v5] st A Q else XX d 204 51 [v0, v1, v2, v3, v4, v5] st A Q := z_ne i_204_44 rfl rfl rfl
theorem q_204_47 : XX d 204 47 [v0, v1, v2, v3, v4, v5] st A Q ↔ XX d 204 48 [v0, v1, v2, v3, v4, v5] (.int (w 1) :: st) A Q := c_stk i_204_47 rfl
theorem q_204_48 : XX d 204 48 [v0, v1, v2, v3, v4, v5] st A Q ↔ XX d 204 52 [v0, v1, v2, v3, v4, v5] st A Q := c_go i_204_48 rfl rfl
theorem q_204_51 : XX d 204 51 [v0, v1, v2, v3, v4, v5] st A Q ↔ XX d 204 52 [v0, v1, v2, v3, v4, v5] (.int (w 0) :: st) A Q := c_stk i_204_51 rfl
theorem q_204_52 : XX d 204 52 [v0, v1, v2, v3, v4, v5] st A Q ↔ XX d 204 53 [v0, v1, v2, v3, v4, v5] (.int (w 1) :: st) A Q := c_stk i_204_52 rfl
theorem q_204_53 : XX d 204 53 [v0, v1, v2, v3, v4, v5] st A Q ↔ XX d 204 54 [v0, v1, v2, v3, v4, v5] (.int (w 0) :: st) A Q := c_stk i_204_53 rfl
theorem q_204_54 : XX (d + 1) 204 54 [v0, v1, v2, v3, v4, v5] [.int x3, .int x2, .int x1, .ref a0] (mk S I L R G) Q ↔ S a0 = some (.inr 12) ∧ XC d 154 [.ref a0, .int x1, .int x2, .int x3] (mk S I L R G) (XK (d + 1) 204 54 [v0, v1, v2, v3, v4, v5] [] Q) := c_callV i_204_54 rfl rfl rfl rfl (Nat.le_of_ble_eq_true rfl) (Nat.le_of_ble_eq_true rfl) rfl
theorem q_204_57 : XX d 204 57 [v0, v1, v2, v3, v4, v5] (.int x :: st) A Q ↔ if x = w 0 then XX d 204 60 [v0, v1, v2, v3, v4, v5] st A Q else XX d 204 84 [v0, v1, v2, v3, v4, v5] st A Q := z_ne i_204_57 rfl rfl rfl
theorem q_204_60 : XX d 204 60 [some (.ref a), v1, v2, v3, v4, v5] st A Q ↔ XX d 204 61 [some (.ref a), v1, v2, v3, v4, v5] (.ref a :: st) A Q := c_lcl i_204_60 rfl rfl
theorem q_204_61 : XX d 204 61 [v0, v1, v2, v3, some (.int x), v5] st A Q ↔ XX d 204 63 [v0, v1, v2, v3, some (.int x), v5] (.int x :: st) A Q := c_lcl i_204_61 rfl rfl
theorem q_204_63 : XX d 204 63 [v0, v1, v2, v3, v4, v5] st A Q ↔ XX d 204 64 [v0, v1, v2, v3, v4, v5] (.int (w 0) :: st) A Q := c_stk i_204_63 rfl
theorem q_204_64 : XX d 204 64 [v0, v1, v2, v3, v4, v5] st A Q ↔ XX d 204 65 [v0, v1, v2, v3, v4, v5] (.int (w 1) :: st) A Q := c_stk i_204_64 rfl
theorem q_204_65 : XX (d + 1) 204 65 [v0, v1, v2, v3, v4, v5] [.int x2, .int x1, .int x0, .ref a3] A Q ↔ XC d 155 [.int x0, .int x1, .int x2] A (XK (d + 1) 204 65 [v0, v1, v2, v3, v4, v5] [.ref a3] Q) := c_callS i_204_65 rfl rfl rfl rfl (Nat.le_of_ble_eq_true rfl) (Nat.le_of_ble_eq_true rfl)
theorem q_204_68 : XX d 204 68 [v0, v1, v2, v3, v4, v5] (.int x :: st) A Q ↔ if x = w 0 then XX d 204 71 [v0, v1, v2, v3, v4, v5] st A Q else XX d 204 75 [v0, v1, v2, v3, v4, v5] st A Q := z_ne i_204_68 rfl rfl rfl
theorem q_204_71 : XX d 204 71 [v0, v1, v2, v3, v4, v5] st A Q ↔ XX d 204 72 [v0, v1, v2, v3, v4, v5] (.int (w 1) :: st) A Q := c_stk i_204_71 rfl
theorem q_204_72 : XX d 204 72 [v0, v1, v2, v3, v4, v5] st A Q ↔ XX d 204 76 [v0, v1, v2, v3, v4, v5] st A Q := c_go i_204_72 rfl rfl
theorem q_204_75 : XX d 204 75 [v0, v1, v2, v3, v4, v5] st A Q ↔ XX d 204 76 [v0, v1, v2, v3, v4, v5] (.int (w 0) :: st) A Q := c_stk i_204_75 rfl
theorem q_204_76 : XX d 204 76 [v0, v1, v2, v3, v4, v5] st A Q ↔ XX d 204 77 [v0, v1, v2, v3, v4, v5] (.int (w 2) :: st) A Q := c_stk i_204_76 rfl
theorem q_204_77 : XX d 204 77 [v0, v1, v2, v3, v4, v5] st A Q ↔ XX d 204 78 [v0, v1, v2, v3, v4, v5] (.int (w 1) :: st) A Q := c_stk i_204_77 rfl
theorem q_204_78 : XX (d + 1) 204 78 [v0, v1, v2, v3, v4, v5] [.int x3, .int x2, .int x1, .ref a0] (mk S I L R G) Q ↔ S a0 = some (.inr 12) ∧ XC d 154 [.ref a0, .int x1, .int x2, .int x3] (mk S I L R G) (XK (d + 1) 204 78 [v0, v1, v2, v3, v4, v5] [] Q) := c_callV i_204_78 rfl rfl rfl rfl (Nat.le_of_ble_eq_true rfl) (Nat.le_of_ble_eq_true rfl) rfl
theorem q_204_81 : XX d 204 81 [v0, v1, v2, v3, v4, v5] (.int x :: st) A Q ↔ if x = w 0 then XX d 204 86 [v0, v1, v2, v3, v4, v5] st A Q else XX d 204 84 [v0, v1, v2, v3, v4, v5] st A Q := z_eq i_204_81 rfl rfl rfl
theorem q_204_84 : XX d 204 84 [v0, v1, v2, v3, v4, v5] st A Q ↔ XX d 204 85 [v0, v1, v2, v3, v4, v5] (.int (w 0) :: st) A Q := c_stk i_204_84 rfl
theorem q_204_85 : XX d 204 85 [v0, v1, v2, v3, v4, v5] [.int x] A Q ↔ Q (.inl (some (.int x))) A := e_retI i_204_85 rfl
theorem q_204_86 : XX d 204 86 [some (.ref a), v1, v2, v3, v4, v5] st A Q ↔ XX d 204 87 [some (.ref a), v1, v2, v3, v4, v5] (.ref a :: st) A Q := c_lcl i_204_86 rfl rfl
theorem q_204_87 : XX d 204 87 [v0, v1, v2, v3, v4, v5] (.ref a :: st) (mk S I L R G) Q ↔ S a = some (.inr 12) ∧ XX d 204 90 [v0, v1, v2, v3, v4, v5] (.ref (a + 5) :: st) (mk S I L R G) Q := r_gf i_204_87 rfl (by decide) rfl
theorem q_204_90 : XX d 204 90 [v0, some (.int x), v2, v3, v4, v5] st A Q ↔ XX d 204 91 [v0, some (.int x), v2, v3, v4, v5] (.int x :: st) A Q := c_lcl i_204_90 rfl rfl
theorem q_204_91 : XX d 204 91 [v0, v1, v2, v3, v4, v5] (.int x :: .ref a :: st) (mk S I L R G) Q ↔ inA (S a) ok_q x ∧ XX d 204 92 [v0, v1, v2, v3, v4, v5] (va_rf (R a (ix x)) :: st) (mk S I L R G) Q := r_aq i_204_91
theorem q_204_92 : XX d 204 92 [v0, v1, some (.int x), v3, v4, v5] st A Q ↔ XX d 204 93 [v0, v1, some (.int x), v3, v4, v5] (.int x :: st) A Q := c_lcl i_204_92 rfl rfl
theorem q_204_93 : XX d 204 93 [v0, v1, v2, v3, v4, v5] (.int x :: .ref a :: st) (mk S I L R G) Q ↔ inA (S a) ok_q x ∧ XX d 204 94 [v0, v1, v2, v3, v4, v5] (va_rf (R a (ix x)) :: st) (mk S I L R G) Q := r_aq i_204_93
theorem q_204_94 : XX d 204 94 [v0, v1, v2, v3, v4, v5] st A Q ↔ XX d 204 95 [v0, v1, v2, v3, v4, v5] (.int (w 5) :: st) A Q := c_stk i_204_94 rfl
theorem q_204_95 : XX d 204 95 [v0, v1, v2, v3, v4, v5] st A Q ↔ XX d 204 96 [v0, v1, v2, v3, v4, v5] (.int (w 2) :: st) A Q := c_stk i_204_95 rfl
theorem q_204_96 : XX d 204 96 [v0, v1, v2, some (.int x), v4, v5] st A Q ↔ XX d 204 97 [v0, v1, v2, some (.int x), v4, v5] (.int x :: st) A Q := c_lcl i_204_96 rfl rfl
theorem q_204_97 : XX d 204 97 [v0, v1, v2, v3, v4, v5] (.int y :: .int x :: st) A Q ↔ XX d 204 98 [v0, v1, v2, v3, v4, v5] (.int (x * y) :: st) A Q := c_stk i_204_97 rfl
theorem q_204_98 : XX d 204 98 [v0, v1, v2, v3, v4, v5] (.int y :: .int x :: st) A Q ↔ XX d 204 99 [v0, v1, v2, v3, v4, v5] (.int (x + y) :: st) A Q := c_stk i_204_98 rfl
theorem q_204_99 : XX d 204 99 [v0, v1, v2, v3, some (.int x), v5] st A Q ↔ XX d 204 101 [v0, v1, v2, v3, some (.int x), v5] (.int x :: st) A Q := c_lcl i_204_99 rfl rfl
theorem q_204_101 : XX d 204 101 [v0, v1, v2, v3, v4, v5] (.int y :: .int x :: st) A Q ↔ XX d 204 102 [v0, v1, v2, v3, v4, v5] (.int (x + y) :: st) A Q := c_stk i_204_101 rfl
theorem q_204_102 : XX d 204 102 [v0, v1, v2, v3, v4, v5] (.int x :: .ref a :: st) (mk S I L R G) Q ↔ inA (S a) ok_i x ∧ XX d 204 103 [v0, v1, v2, v3, v4, v5] (.int (I a (ix x)) :: st) (mk S I L R G) Q := r_ia i_204_102
theorem q_204_103 : XX d 204 103 [v0, v1, v2, v3, v4, v5] [.int x] A Q ↔ Q (.inl (some (.int x))) A := e_retI i_204_103 rfl
theorem q_204_e : XC d 204 [.ref a0, .int x1, .int x2, .int x3, .int x4] A Q ↔ XX d 204 0 [some (.ref a0), some (.int x1), some (.int x2), some (.int x3), some (.int x4), none] [] A Q := Iff.rfl
theorem i_205_0 : t_ins 205 0 = some (.aload_n 0) := by decide +kernel
theorem i_205_1 : t_ins 205 1 = some (.iconst 0) := by decide +kernel
theorem i_205_2 : t_ins 205 2 = some (.putfield 121) := by decide +kernel
theorem i_205_5 : t_ins 205 5 = some (.aload_n 0) := by decide +kernel
theorem i_205_6 : t_ins 205 6 = some (.iload_n 1) := by decide +kernel
theorem i_205_7 : t_ins 205 7 = some (.invokestatic 245) := by decide +kernel
theorem i_205_10 : t_ins 205 10 = some (.ifCond .ne 7) := by decide +kernel
theorem i_205_13 : t_ins 205 13 = some (.iconst 1) := by decide +kernel
theorem i_205_14 : t_ins 205 14 = some (.goto 4) := by decide +kernel
theorem i_205_17 : t_ins 205 17 = some (.iconst 0) := by decide +kernel
theorem i_205_18 : t_ins 205 18 = some (.iconst 1) := by decide +kernel
theorem i_205_19 : t_ins 205 19 = some (.iconst 0) := by decide +kernel
theorem i_205_20 : t_ins 205 20 = some (.invokevirtual 234) := by decide +kernel
theorem i_205_23 : t_ins 205 23 = some (.ifCond .ne 27) := by decide +kernel
theorem i_205_26 : t_ins 205 26 = some (.aload_n 0) := by decide +kernel
theorem i_205_27 : t_ins 205 27 = some (.iload_n 2) := by decide +kernel
theorem i_205_28 : t_ins 205 28 = some (.iconst 0) := by decide +kernel
theorem i_205_29 : t_ins 205 29 = some (.ldc 200) := by decide +kernel
theorem i_205_31 : t_ins 205 31 = some (.invokestatic 230) := by decide +kernel
theorem i_205_34 : t_ins 205 34 = some (.ifCond .ne 7) := by decide +kernel
theorem i_205_37 : t_ins 205 37 = some (.iconst 1) := by decide +kernel
theorem i_205_38 : t_ins 205 38 = some (.goto 4) := by decide +kernel
theorem i_205_41 : t_ins 205 41 = some (.iconst 0) := by decide +kernel
theorem i_205_42 : t_ins 205 42 = some (.iconst 2) := by decide +kernel
theorem i_205_43 : t_ins 205 43 = some (.iconst 1) := by decide +kernel
theorem i_205_44 : t_ins 205 44 = some (.invokevirtual 234) := by decide +kernel
theorem i_205_47 : t_ins 205 47 = some (.ifCond .eq 5) := by decide +kernel
theorem i_205_50 : t_ins 205 50 = some (.iconst 0) := by decide +kernel
theorem i_205_51 : t_ins 205 51 = some (.ireturn) := by decide +kernel
theorem i_205_52 : t_ins 205 52 = some (.aload_n 0) := by decide +kernel
theorem i_205_53 : t_ins 205 53 = some (.iload_n 1) := by decide +kernel
theorem i_205_54 : t_ins 205 54 = some (.iload_n 2) := by decide +kernel
theorem i_205_55 : t_ins 205 55 = some (.invokevirtual 275) := by decide +kernel
theorem i_205_58 : t_ins 205 58 = some (.ireturn) := by decide +kernel
theorem q_205_0 : XX d 205 0 [some (.ref a), v1, v2] st A Q ↔ XX d 205 1 [some (.ref a), v1, v2] (.ref a :: st) A Q := c_lcl i_205_0 rfl rfl
theorem q_205_1 : XX d 205 1 [v0, v1, v2] st A Q ↔ XX d 205 2 [v0, v1, v2] (.int (w 0) :: st) A Q := c_stk i_205_1 rfl
theorem q_205_2 : XX d 205 2 [v0, v1, v2] (.int x :: .ref a :: st) (mk S I L R G) Q ↔ S a = some (.inr 12) ∧ XX d 205 5 [v0, v1, v2] st (mk S (wr I a (up (I a) 0 x)) L R G) Q := r_pf i_205_2 rfl (by decide) rfl rfl rfl
theorem q_205_5 : XX d 205 5 [some (.ref a), v1, v2] st A Q ↔ XX d 205 6 [some (.ref a), v1, v2] (.ref a :: st) A Q := c_lcl i_205_5 rfl rfl
theorem q_205_6 : XX d 205 6 [v0, some (.int x), v2] st A Q ↔ XX d 205 7 [v0, some (.int x), v2] (.int x :: st) A Q := c_lcl i_205_6 rfl rfl
theorem q_205_7 : XX (d + 1) 205 7 [v0, v1, v2] [.int x0, .ref a1] A Q ↔ XC d 182 [.int x0] A (XK (d + 1) 205 7 [v0, v1, v2] [.ref a1] Q) := c_callS i_205_7 rfl rfl rfl rfl (Nat.le_of_ble_eq_true rfl) (Nat.le_of_ble_eq_true rfl)
theorem q_205_10 : XX d 205 10 [v0, v1, v2] (.int x :: st) A Q ↔ if x = w 0 then XX d 205 13 [v0, v1, v2] st A Q else XX d 205 17 [v0, v1, v2] st A Q := z_ne i_205_10 rfl rfl rfl
theorem q_205_13 : XX d 205 13 [v0, v1, v2] st A Q ↔ XX d 205 14 [v0, v1, v2] (.int (w 1) :: st) A Q := c_stk i_205_13 rfl
theorem q_205_14 : XX d 205 14 [v0, v1, v2] st A Q ↔ XX d 205 18 [v0, v1, v2] st A Q := c_go i_205_14 rfl rfl
theorem q_205_17 : XX d 205 17 [v0, v1, v2] st A Q ↔ XX d 205 18 [v0, v1, v2] (.int (w 0) :: st) A Q := c_stk i_205_17 rfl
theorem q_205_18 : XX d 205 18 [v0, v1, v2] st A Q ↔ XX d 205 19 [v0, v1, v2] (.int (w 1) :: st) A Q := c_stk i_205_18 rfl
theorem q_205_19 : XX d 205 19 [v0, v1, v2] st A Q ↔ XX d 205 20 [v0, v1, v2] (.int (w 0) :: st) A Q := c_stk i_205_19 rfl
theorem q_205_20 : XX (d + 1) 205 20 [v0, v1, v2] [.int x3, .int x2, .int x1, .ref a0] (mk S I L R G) Q ↔ S a0 = some (.inr 12) ∧ XC d 154 [.ref a0, .int x1, .int x2, .int x3] (mk S I L R G) (XK (d + 1) 205 20 [v0, v1, v2] [] Q) := c_callV i_205_20 rfl rfl rfl rfl (Nat.le_of_ble_eq_true rfl) (Nat.le_of_ble_eq_true rfl) rfl
theorem q_205_23 : XX d 205 23 [v0, v1, v2] (.int x :: st) A Q ↔ if x = w 0 then XX d 205 26 [v0, v1, v2] st A Q else XX d 205 50 [v0, v1, v2] st A Q := z_ne i_205_23 rfl rfl rfl
theorem q_205_26 : XX d 205 26 [some (.ref a), v1, v2] st A Q ↔ XX d 205 27 [some (.ref a), v1, v2] (.ref a :: st) A Q := c_lcl i_205_26 rfl rfl
theorem q_205_27 : XX d 205 27 [v0, v1, some (.int x)] st A Q ↔ XX d 205 28 [v0, v1, some (.int x)] (.int x :: st) A Q := c_lcl i_205_27 rfl rfl
theorem q_205_28 : XX d 205 28 [v0, v1, v2] st A Q ↔ XX d 205 29 [v0, v1, v2] (.int (w 0) :: st) A Q := c_stk i_205_28 rfl
theorem q_205_29 : XX d 205 29 [v0, v1, v2] st A Q ↔ XX d 205 31 [v0, v1, v2] (.int (w 999999999) :: st) A Q := r_ldc i_205_29 rfl
theorem q_205_31 : XX (d + 1) 205 31 [v0, v1, v2] [.int x2, .int x1, .int x0, .ref a3] A Q ↔ XC d 155 [.int x0, .int x1, .int x2] A (XK (d + 1) 205 31 [v0, v1, v2] [.ref a3] Q) := c_callS i_205_31 rfl rfl rfl rfl (Nat.le_of_ble_eq_true rfl) (Nat.le_of_ble_eq_true rfl)
theorem q_205_34 : XX d 205 34 [v0, v1, v2] (.int x :: st) A Q ↔ if x = w 0 then XX d 205 37 [v0, v1, v2] st A Q else XX d 205 41 [v0, v1, v2] st A Q := z_ne i_205_34 rfl rfl rfl
theorem q_205_37 : XX d 205 37 [v0, v1, v2] st A Q ↔ XX d 205 38 [v0, v1, v2] (.int (w 1) :: st) A Q := c_stk i_205_37 rfl
theorem q_205_38 : XX d 205 38 [v0, v1, v2] st A Q ↔ XX d 205 42 [v0, v1, v2] st A Q := c_go i_205_38 rfl rfl
theorem q_205_41 : XX d 205 41 [v0, v1, v2] st A Q ↔ XX d 205 42 [v0, v1, v2] (.int (w 0) :: st) A Q := c_stk i_205_41 rfl
theorem q_205_42 : XX d 205 42 [v0, v1, v2] st A Q ↔ XX d 205 43 [v0, v1, v2] (.int (w 2) :: st) A Q := c_stk i_205_42 rfl
theorem q_205_43 : XX d 205 43 [v0, v1, v2] st A Q ↔ XX d 205 44 [v0, v1, v2] (.int (w 1) :: st) A Q := c_stk i_205_43 rfl
theorem q_205_44 : XX (d + 1) 205 44 [v0, v1, v2] [.int x3, .int x2, .int x1, .ref a0] (mk S I L R G) Q ↔ S a0 = some (.inr 12) ∧ XC d 154 [.ref a0, .int x1, .int x2, .int x3] (mk S I L R G) (XK (d + 1) 205 44 [v0, v1, v2] [] Q) := c_callV i_205_44 rfl rfl rfl rfl (Nat.le_of_ble_eq_true rfl) (Nat.le_of_ble_eq_true rfl) rfl
theorem q_205_47 : XX d 205 47 [v0, v1, v2] (.int x :: st) A Q ↔ if x = w 0 then XX d 205 52 [v0, v1, v2] st A Q else XX d 205 50 [v0, v1, v2] st A Q := z_eq i_205_47 rfl rfl rfl
theorem q_205_50 : XX d 205 50 [v0, v1, v2] st A Q ↔ XX d 205 51 [v0, v1, v2] (.int (w 0) :: st) A Q := c_stk i_205_50 rfl
theorem q_205_51 : XX d 205 51 [v0, v1, v2] [.int x] A Q ↔ Q (.inl (some (.int x))) A := e_retI i_205_51 rfl
theorem q_205_52 : XX d 205 52 [some (.ref a), v1, v2] st A Q ↔ XX d 205 53 [some (.ref a), v1, v2] (.ref a :: st) A Q := c_lcl i_205_52 rfl rfl
theorem q_205_53 : XX d 205 53 [v0, some (.int x), v2] st A Q ↔ XX d 205 54 [v0, some (.int x), v2] (.int x :: st) A Q := c_lcl i_205_53 rfl rfl
theorem q_205_54 : XX d 205 54 [v0, v1, some (.int x)] st A Q ↔ XX d 205 55 [v0, v1, some (.int x)] (.int x :: st) A Q := c_lcl i_205_54 rfl rfl
theorem q_205_55 : XX (d + 1) 205 55 [v0, v1, v2] [.int x2, .int x1, .ref a0] (mk S I L R G) Q ↔ S a0 = some (.inr 12) ∧ XC d 187 [.ref a0, .int x1, .int x2] (mk S I L R G) (XK (d + 1) 205 55 [v0, v1, v2] [] Q) := c_callV i_205_55 rfl rfl rfl rfl (Nat.le_of_ble_eq_true rfl) (Nat.le_of_ble_eq_true rfl) rfl
theorem q_205_58 : XX d 205 58 [v0, v1, v2] [.int x] A Q ↔ Q (.inl (some (.int x))) A := e_retI i_205_58 rfl
theorem q_205_e : XC d 205 [.ref a0, .int x1, .int x2] A Q ↔ XX d 205 0 [some (.ref a0), some (.int x1), some (.int x2)] [] A Q := Iff.rfl
theorem i_206_0 : t_ins 206 0 = some (.iconst 0) := by decide +kernel
theorem i_206_1 : t_ins 206 1 = some (.istore 4) := by decide +kernel
theorem i_206_3 : t_ins 206 3 = some (.iconst 0) := by decide +kernel
theorem i_206_4 : t_ins 206 4 = some (.istore 5) := by decide +kernel
theorem i_206_6 : t_ins 206 6 = some (.iload 5) := by decide +kernel
theorem i_206_8 : t_ins 206 8 = some (.iload_n 3) := by decide +kernel
theorem i_206_9 : t_ins 206 9 = some (.if_icmp .ge 48) := by decide +kernel
theorem i_206_12 : t_ins 206 12 = some (.iload 4) := by decide +kernel
theorem i_206_14 : t_ins 206 14 = some (.aload_n 1) := by decide +kernel
theorem i_206_15 : t_ins 206 15 = some (.iload_n 2) := by decide +kernel
theorem i_206_16 : t_ins 206 16 = some (.iload 5) := by decide +kernel
theorem i_206_18 : t_ins 206 18 = some (.iadd) := by decide +kernel
theorem i_206_19 : t_ins 206 19 = some (.baload) := by decide +kernel
theorem i_206_20 : t_ins 206 20 = some (.bipush 32) := by decide +kernel
theorem i_206_22 : t_ins 206 22 = some (.if_icmp .eq 25) := by decide +kernel
theorem i_206_25 : t_ins 206 25 = some (.iload 5) := by decide +kernel
theorem i_206_27 : t_ins 206 27 = some (.ifCond .eq 16) := by decide +kernel
theorem i_206_30 : t_ins 206 30 = some (.aload_n 1) := by decide +kernel
theorem i_206_31 : t_ins 206 31 = some (.iload_n 2) := by decide +kernel
theorem i_206_32 : t_ins 206 32 = some (.iload 5) := by decide +kernel
theorem i_206_34 : t_ins 206 34 = some (.iadd) := by decide +kernel
theorem i_206_35 : t_ins 206 35 = some (.iconst 1) := by decide +kernel
theorem i_206_36 : t_ins 206 36 = some (.isub) := by decide +kernel
theorem i_206_37 : t_ins 206 37 = some (.baload) := by decide +kernel
theorem i_206_38 : t_ins 206 38 = some (.bipush 32) := by decide +kernel
theorem i_206_40 : t_ins 206 40 = some (.if_icmp .ne 7) := by decide +kernel
theorem i_206_43 : t_ins 206 43 = some (.iconst 1) := by decide +kernel
theorem i_206_44 : t_ins 206 44 = some (.goto 4) := by decide +kernel
theorem i_206_47 : t_ins 206 47 = some (.iconst 0) := by decide +kernel
theorem i_206_48 : t_ins 206 48 = some (.iadd) := by decide +kernel
theorem i_206_49 : t_ins 206 49 = some (.istore 4) := by decide +kernel
theorem i_206_51 : t_ins 206 51 = some (.iinc 5 1) := by decide +kernel
theorem i_206_54 : t_ins 206 54 = some (.goto (-48)) := by decide +kernel
theorem i_206_57 : t_ins 206 57 = some (.iload 4) := by decide +kernel
theorem i_206_59 : t_ins 206 59 = some (.ireturn) := by decide +kernel
theorem q_206_0 : XX d 206 0 [v0, v1, v2, v3, v4, v5] st A Q ↔ XX d 206 1 [v0, v1, v2, v3, v4, v5] (.int (w 0) :: st) A Q := c_stk i_206_0 rfl
theorem q_206_1 : XX d 206 1 [v0, v1, v2, some (.int z), v4, v5] (.int x :: st) A Q ↔ XX d 206 3 [v0, v1, v2, some (.int z), some (.int x), v5] st A Q := c_lcl i_206_1 rfl rfl
theorem q_206_3 : XX d 206 3 [v0, v1, v2, v3, v4, v5] st A Q ↔ XX d 206 4 [v0, v1, v2, v3, v4, v5] (.int (w 0) :: st) A Q := c_stk i_206_3 rfl
theorem q_206_4 : XX d 206 4 [v0, v1, v2, v3, some (.int z), v5] (.int x :: st) A Q ↔ XX d 206 6 [v0, v1, v2, v3, some (.int z), some (.int x)] st A Q := c_lcl i_206_4 rfl rfl
theorem q_206_6 : XX d 206 6 [v0, v1, v2, v3, v4, some (.int x)] st A Q ↔ XX d 206 8 [v0, v1, v2, v3, v4, some (.int x)] (.int x :: st) A Q := c_lcl i_206_6 rfl rfl
theorem q_206_8 : XX d 206 8 [v0, v1, v2, some (.int x), v4, v5] st A Q ↔ XX d 206 9 [v0, v1, v2, some (.int x), v4, v5] (.int x :: st) A Q := c_lcl i_206_8 rfl rfl
theorem q_206_9 : XX d 206 9 [v0, v1, v2, v3, v4, v5] (.int y :: .int x :: st) A Q ↔ if x < y then XX d 206 12 [v0, v1, v2, v3, v4, v5] st A Q else XX d 206 57 [v0, v1, v2, v3, v4, v5] st A Q := b_ge i_206_9 rfl rfl rfl
theorem q_206_12 : XX d 206 12 [v0, v1, v2, v3, some (.int x), v5] st A Q ↔ XX d 206 14 [v0, v1, v2, v3, some (.int x), v5] (.int x :: st) A Q := c_lcl i_206_12 rfl rfl
theorem q_206_14 : XX d 206 14 [v0, some (.ref a), v2, v3, v4, v5] st A Q ↔ XX d 206 15 [v0, some (.ref a), v2, v3, v4, v5] (.ref a :: st) A Q := c_lcl i_206_14 rfl rfl
theorem q_206_15 : XX d 206 15 [v0, v1, some (.int x), v3, v4, v5] st A Q ↔ XX d 206 16 [v0, v1, some (.int x), v3, v4, v5] (.int x :: st) A Q := c_lcl i_206_15 rfl rfl
theorem q_206_16 : XX d 206 16 [v0, v1, v2, v3, v4, some (.int x)] st A Q ↔ XX d 206 18 [v0, v1, v2, v3, v4, some (.int x)] (.int x :: st) A Q := c_lcl i_206_16 rfl rfl
theorem q_206_18 : XX d 206 18 [v0, v1, v2, v3, v4, v5] (.int y :: .int x :: st) A Q ↔ XX d 206 19 [v0, v1, v2, v3, v4, v5] (.int (x + y) :: st) A Q := c_stk i_206_18 rfl
theorem q_206_19 : XX d 206 19 [v0, v1, v2, v3, v4, v5] (.int x :: .ref a :: st) (mk S I L R G) Q ↔ inA (S a) ok_b x ∧ XX d 206 20 [v0, v1, v2, v3, v4, v5] (.int (I a (ix x)) :: st) (mk S I L R G) Q := r_ba i_206_19
theorem q_206_20 : XX d 206 20 [v0, v1, v2, v3, v4, v5] st A Q ↔ XX d 206 22 [v0, v1, v2, v3, v4, v5] (.int (w 32) :: st) A Q := c_stk i_206_20 rfl
theorem q_206_22 : XX d 206 22 [v0, v1, v2, v3, v4, v5] (.int y :: .int x :: st) A Q ↔ if x = y then XX d 206 47 [v0, v1, v2, v3, v4, v5] st A Q else XX d 206 25 [v0, v1, v2, v3, v4, v5] st A Q := b_eq i_206_22 rfl rfl rfl
theorem q_206_25 : XX d 206 25 [v0, v1, v2, v3, v4, some (.int x)] st A Q ↔ XX d 206 27 [v0, v1, v2, v3, v4, some (.int x)] (.int x :: st) A Q := c_lcl i_206_25 rfl rfl
theorem q_206_27 : XX d 206 27 [v0, v1, v2, v3, v4, v5] (.int x :: st) A Q ↔ if x = w 0 then XX d 206 43 [v0, v1, v2, v3, v4, v5] st A Q else XX d 206 30 [v0, v1, v2, v3, v4, v5] st A Q := z_eq i_206_27 rfl rfl rfl
theorem q_206_30 : XX d 206 30 [v0, some (.ref a), v2, v3, v4, v5] st A Q ↔ XX d 206 31 [v0, some (.ref a), v2, v3, v4, v5] (.ref a :: st) A Q := c_lcl i_206_30 rfl rfl
theorem q_206_31 : XX d 206 31 [v0, v1, some (.int x), v3, v4, v5] st A Q ↔ XX d 206 32 [v0, v1, some (.int x), v3, v4, v5] (.int x :: st) A Q := c_lcl i_206_31 rfl rfl
theorem q_206_32 : XX d 206 32 [v0, v1, v2, v3, v4, some (.int x)] st A Q ↔ XX d 206 34 [v0, v1, v2, v3, v4, some (.int x)] (.int x :: st) A Q := c_lcl i_206_32 rfl rfl
theorem q_206_34 : XX d 206 34 [v0, v1, v2, v3, v4, v5] (.int y :: .int x :: st) A Q ↔ XX d 206 35 [v0, v1, v2, v3, v4, v5] (.int (x + y) :: st) A Q := c_stk i_206_34 rfl
theorem q_206_35 : XX d 206 35 [v0, v1, v2, v3, v4, v5] st A Q ↔ XX d 206 36 [v0, v1, v2, v3, v4, v5] (.int (w 1) :: st) A Q := c_stk i_206_35 rfl
theorem q_206_36 : XX d 206 36 [v0, v1, v2, v3, v4, v5] (.int y :: .int x :: st) A Q ↔ XX d 206 37 [v0, v1, v2, v3, v4, v5] (.int (x - y) :: st) A Q := c_stk i_206_36 rfl
theorem q_206_37 : XX d 206 37 [v0, v1, v2, v3, v4, v5] (.int x :: .ref a :: st) (mk S I L R G) Q ↔ inA (S a) ok_b x ∧ XX d 206 38 [v0, v1, v2, v3, v4, v5] (.int (I a (ix x)) :: st) (mk S I L R G) Q := r_ba i_206_37
theorem q_206_38 : XX d 206 38 [v0, v1, v2, v3, v4, v5] st A Q ↔ XX d 206 40 [v0, v1, v2, v3, v4, v5] (.int (w 32) :: st) A Q := c_stk i_206_38 rfl
theorem q_206_40 : XX d 206 40 [v0, v1, v2, v3, v4, v5] (.int y :: .int x :: st) A Q ↔ if x = y then XX d 206 43 [v0, v1, v2, v3, v4, v5] st A Q else XX d 206 47 [v0, v1, v2, v3, v4, v5] st A Q := b_ne i_206_40 rfl rfl rfl
theorem q_206_43 : XX d 206 43 [v0, v1, v2, v3, v4, v5] st A Q ↔ XX d 206 44 [v0, v1, v2, v3, v4, v5] (.int (w 1) :: st) A Q := c_stk i_206_43 rfl
theorem q_206_44 : XX d 206 44 [v0, v1, v2, v3, v4, v5] st A Q ↔ XX d 206 48 [v0, v1, v2, v3, v4, v5] st A Q := c_go i_206_44 rfl rfl
theorem q_206_47 : XX d 206 47 [v0, v1, v2, v3, v4, v5] st A Q ↔ XX d 206 48 [v0, v1, v2, v3, v4, v5] (.int (w 0) :: st) A Q := c_stk i_206_47 rfl
theorem q_206_48 : XX d 206 48 [v0, v1, v2, v3, v4, v5] (.int y :: .int x :: st) A Q ↔ XX d 206 49 [v0, v1, v2, v3, v4, v5] (.int (x + y) :: st) A Q := c_stk i_206_48 rfl
theorem q_206_49 : XX d 206 49 [v0, v1, v2, some (.int z), v4, v5] (.int x :: st) A Q ↔ XX d 206 51 [v0, v1, v2, some (.int z), some (.int x), v5] st A Q := c_lcl i_206_49 rfl rfl
theorem q_206_51 : XX d 206 51 [v0, v1, v2, v3, some (.int z), some (.int x)] st A Q ↔ XX d 206 54 [v0, v1, v2, v3, some (.int z), some (.int (x + w 1))] st A Q := c_lcl i_206_51 rfl rfl
theorem q_206_54 : XX d 206 54 [v0, v1, v2, v3, v4, v5] st A Q ↔ XX d 206 6 [v0, v1, v2, v3, v4, v5] st A Q := c_go i_206_54 rfl rfl
theorem q_206_57 : XX d 206 57 [v0, v1, v2, v3, some (.int x), v5] st A Q ↔ XX d 206 59 [v0, v1, v2, v3, some (.int x), v5] (.int x :: st) A Q := c_lcl i_206_57 rfl rfl
theorem q_206_59 : XX d 206 59 [v0, v1, v2, v3, v4, v5] [.int x] A Q ↔ Q (.inl (some (.int x))) A := e_retI i_206_59 rfl
theorem q_206_e : XC d 206 [.ref a0, .ref a1, .int x2, .int x3] A Q ↔ XX d 206 0 [some (.ref a0), some (.ref a1), some (.int x2), some (.int x3), none, none] [] A Q := Iff.rfl
theorem i_207_0 : t_ins 207 0 = some (.iconst 0) := by decide +kernel
theorem i_207_1 : t_ins 207 1 = some (.istore 4) := by decide +kernel
theorem i_207_3 : t_ins 207 3 = some (.iconst 0) := by decide +kernel
theorem i_207_4 : t_ins 207 4 = some (.istore 5) := by decide +kernel
theorem i_207_6 : t_ins 207 6 = some (.iload 5) := by decide +kernel
theorem i_207_8 : t_ins 207 8 = some (.iload_n 3) := by decide +kernel
theorem i_207_9 : t_ins 207 9 = some (.if_icmp .ge 30) := by decide +kernel
theorem i_207_12 : t_ins 207 12 = some (.iload 4) := by decide +kernel
theorem i_207_14 : t_ins 207 14 = some (.aload_n 1) := by decide +kernel
theorem i_207_15 : t_ins 207 15 = some (.iload_n 2) := by decide +kernel
theorem i_207_16 : t_ins 207 16 = some (.iload 5) := by decide +kernel
theorem i_207_18 : t_ins 207 18 = some (.iadd) := by decide +kernel
theorem i_207_19 : t_ins 207 19 = some (.baload) := by decide +kernel
theorem i_207_20 : t_ins 207 20 = some (.bipush 32) := by decide +kernel
theorem i_207_22 : t_ins 207 22 = some (.if_icmp .eq 7) := by decide +kernel
theorem i_207_25 : t_ins 207 25 = some (.iconst 1) := by decide +kernel
theorem i_207_26 : t_ins 207 26 = some (.goto 4) := by decide +kernel
theorem i_207_29 : t_ins 207 29 = some (.iconst 0) := by decide +kernel
theorem i_207_30 : t_ins 207 30 = some (.iadd) := by decide +kernel
theorem i_207_31 : t_ins 207 31 = some (.istore 4) := by decide +kernel
theorem i_207_33 : t_ins 207 33 = some (.iinc 5 1) := by decide +kernel
theorem i_207_36 : t_ins 207 36 = some (.goto (-30)) := by decide +kernel
theorem i_207_39 : t_ins 207 39 = some (.iload 4) := by decide +kernel
theorem i_207_41 : t_ins 207 41 = some (.ireturn) := by decide +kernel
theorem q_207_0 : XX d 207 0 [v0, v1, v2, v3, v4, v5] st A Q ↔ XX d 207 1 [v0, v1, v2, v3, v4, v5] (.int (w 0) :: st) A Q := c_stk i_207_0 rfl
theorem q_207_1 : XX d 207 1 [v0, v1, v2, some (.int z), v4, v5] (.int x :: st) A Q ↔ XX d 207 3 [v0, v1, v2, some (.int z), some (.int x), v5] st A Q := c_lcl i_207_1 rfl rfl
theorem q_207_3 : XX d 207 3 [v0, v1, v2, v3, v4, v5] st A Q ↔ XX d 207 4 [v0, v1, v2, v3, v4, v5] (.int (w 0) :: st) A Q := c_stk i_207_3 rfl
theorem q_207_4 : XX d 207 4 [v0, v1, v2, v3, some (.int z), v5] (.int x :: st) A Q ↔ XX d 207 6 [v0, v1, v2, v3, some (.int z), some (.int x)] st A Q := c_lcl i_207_4 rfl rfl
theorem q_207_6 : XX d 207 6 [v0, v1, v2, v3, v4, some (.int x)] st A Q ↔ XX d 207 8 [v0, v1, v2, v3, v4, some (.int x)] (.int x :: st) A Q := c_lcl i_207_6 rfl rfl
theorem q_207_8 : XX d 207 8 [v0, v1, v2, some (.int x), v4, v5] st A Q ↔ XX d 207 9 [v0, v1, v2, some (.int x), v4, v5] (.int x :: st) A Q := c_lcl i_207_8 rfl rfl
theorem q_207_9 : XX d 207 9 [v0, v1, v2, v3, v4, v5] (.int y :: .int x :: st) A Q ↔ if x < y then XX d 207 12 [v0, v1, v2, v3, v4, v5] st A Q else XX d 207 39 [v0, v1, v2, v3, v4, v5] st A Q := b_ge i_207_9 rfl rfl rfl
theorem q_207_12 : XX d 207 12 [v0, v1, v2, v3, some (.int x), v5] st A Q ↔ XX d 207 14 [v0, v1, v2, v3, some (.int x), v5] (.int x :: st) A Q := c_lcl i_207_12 rfl rfl
theorem q_207_14 : XX d 207 14 [v0, some (.ref a), v2, v3, v4, v5] st A Q ↔ XX d 207 15 [v0, some (.ref a), v2, v3, v4, v5] (.ref a :: st) A Q := c_lcl i_207_14 rfl rfl
theorem q_207_15 : XX d 207 15 [v0, v1, some (.int x), v3, v4, v5] st A Q ↔ XX d 207 16 [v0, v1, some (.int x), v3, v4, v5] (.int x :: st) A Q := c_lcl i_207_15 rfl rfl
theorem q_207_16 : XX d 207 16 [v0, v1, v2, v3, v4, some (.int x)] st A Q ↔ XX d 207 18 [v0, v1, v2, v3, v4, some (.int x)] (.int x :: st) A Q := c_lcl i_207_16 rfl rfl
theorem q_207_18 : XX d 207 18 [v0, v1, v2, v3, v4, v5] (.int y :: .int x :: st) A Q ↔ XX d 207 19 [v0, v1, v2, v3, v4, v5] (.int (x + y) :: st) A Q := c_stk i_207_18 rfl
theorem q_207_19 : XX d 207 19 [v0, v1, v2, v3, v4, v5] (.int x :: .ref a :: st) (mk S I L R G) Q ↔ inA (S a) ok_b x ∧ XX d 207 20 [v0, v1, v2, v3, v4, v5] (.int (I a (ix x)) :: st) (mk S I L R G) Q := r_ba i_207_19
theorem q_207_20 : XX d 207 20 [v0, v1, v2, v3, v4, v5] st A Q ↔ XX d 207 22 [v0, v1, v2, v3, v4, v5] (.int (w 32) :: st) A Q := c_stk i_207_20 rfl
theorem q_207_22 : XX d 207 22 [v0, v1, v2, v3, v4, v5] (.int y :: .int x :: st) A Q ↔ if x = y then XX d 207 29 [v0, v1, v2, v3, v4, v5] st A Q else XX d 207 25 [v0, v1, v2, v3, v4, v5] st A Q := b_eq i_207_22 rfl rfl rfl
theorem q_207_25 : XX d 207 25 [v0, v1, v2, v3, v4, v5] st A Q ↔ XX d 207 26 [v0, v1, v2, v3, v4, v5] (.int (w 1) :: st) A Q := c_stk i_207_25 rfl
theorem q_207_26 : XX d 207 26 [v0, v1, v2, v3, v4, v5] st A Q ↔ XX d 207 30 [v0, v1, v2, v3, v4, v5] st A Q := c_go i_207_26 rfl rfl
theorem q_207_29 : XX d 207 29 [v0, v1, v2, v3, v4, v5] st A Q ↔ XX d 207 30 [v0, v1, v2, v3, v4, v5] (.int (w 0) :: st) A Q := c_stk i_207_29 rfl
theorem q_207_30 : XX d 207 30 [v0, v1, v2, v3, v4, v5] (.int y :: .int x :: st) A Q ↔ XX d 207 31 [v0, v1, v2, v3, v4, v5] (.int (x + y) :: st) A Q := c_stk i_207_30 rfl
theorem q_207_31 : XX d 207 31 [v0, v1, v2, some (.int z), v4, v5] (.int x :: st) A Q ↔ XX d 207 33 [v0, v1, v2, some (.int z), some (.int x), v5] st A Q := c_lcl i_207_31 rfl rfl
theorem q_207_33 : XX d 207 33 [v0, v1, v2, v3, some (.int z), some (.int x)] st A Q ↔ XX d 207 36 [v0, v1, v2, v3, some (.int z), some (.int (x + w 1))] st A Q := c_lcl i_207_33 rfl rfl
theorem q_207_36 : XX d 207 36 [v0, v1, v2, v3, v4, v5] st A Q ↔ XX d 207 6 [v0, v1, v2, v3, v4, v5] st A Q := c_go i_207_36 rfl rfl
theorem q_207_39 : XX d 207 39 [v0, v1, v2, v3, some (.int x), v5] st A Q ↔ XX d 207 41 [v0, v1, v2, v3, some (.int x), v5] (.int x :: st) A Q := c_lcl i_207_39 rfl rfl
theorem q_207_41 : XX d 207 41 [v0, v1, v2, v3, v4, v5] [.int x] A Q ↔ Q (.inl (some (.int x))) A := e_retI i_207_41 rfl
theorem q_207_e : XC d 207 [.ref a0, .ref a1, .int x2, .int x3] A Q ↔ XX d 207 0 [some (.ref a0), some (.ref a1), some (.int x2), some (.int x3), none, none] [] A Q := Iff.rfl
theorem i_208_0 : t_ins 208 0 = some (.aload_n 0) := by decide +kernel
theorem i_208_1 : t_ins 208 1 = some (.iconst 0) := by decide +kernel
theorem i_208_2 : t_ins 208 2 = some (.putfield 121) := by decide +kernel
theorem i_208_5 : t_ins 208 5 = some (.aload_n 0) := by decide +kernel
theorem i_208_6 : t_ins 208 6 = some (.iload_n 1) := by decide +kernel
theorem i_208_7 : t_ins 208 7 = some (.invokestatic 245) := by decide +kernel
theorem i_208_10 : t_ins 208 10 = some (.ifCond .ne 7) := by decide +kernel
theorem i_208_13 : t_ins 208 13 = some (.iconst 1) := by decide +kernel
theorem i_208_14 : t_ins 208 14 = some (.goto 4) := by decide +kernel
theorem i_208_17 : t_ins 208 17 = some (.iconst 0) := by decide +kernel
theorem i_208_18 : t_ins 208 18 = some (.iconst 1) := by decide +kernel
theorem i_208_19 : t_ins 208 19 = some (.iconst 0) := by decide +kernel
theorem i_208_20 : t_ins 208 20 = some (.invokevirtual 234) := by decide +kernel
theorem i_208_23 : t_ins 208 23 = some (.ifCond .ne 26) := by decide +kernel
theorem i_208_26 : t_ins 208 26 = some (.aload_n 0) := by decide +kernel
theorem i_208_27 : t_ins 208 27 = some (.iload_n 3) := by decide +kernel
theorem i_208_28 : t_ins 208 28 = some (.iconst 0) := by decide +kernel
theorem i_208_29 : t_ins 208 29 = some (.iconst 2) := by decide +kernel
theorem i_208_30 : t_ins 208 30 = some (.invokestatic 230) := by decide +kernel
theorem i_208_33 : t_ins 208 33 = some (.ifCond .ne 7) := by decide +kernel
theorem i_208_36 : t_ins 208 36 = some (.iconst 1) := by decide +kernel
theorem i_208_37 : t_ins 208 37 = some (.goto 4) := by decide +kernel
theorem i_208_40 : t_ins 208 40 = some (.iconst 0) := by decide +kernel
theorem i_208_41 : t_ins 208 41 = some (.iconst 2) := by decide +kernel
theorem i_208_42 : t_ins 208 42 = some (.iconst 1) := by decide +kernel
theorem i_208_43 : t_ins 208 43 = some (.invokevirtual 234) := by decide +kernel
theorem i_208_46 : t_ins 208 46 = some (.ifCond .eq 5) := by decide +kernel
theorem i_208_49 : t_ins 208 49 = some (.iconst 0) := by decide +kernel
theorem i_208_50 : t_ins 208 50 = some (.ireturn) := by decide +kernel
theorem i_208_51 : t_ins 208 51 = some (.aload_n 0) := by decide +kernel
theorem i_208_52 : t_ins 208 52 = some (.iload_n 1) := by decide +kernel
theorem i_208_53 : t_ins 208 53 = some (.iload_n 2) := by decide +kernel
theorem i_208_54 : t_ins 208 54 = some (.invokevirtual 292) := by decide +kernel
theorem i_208_57 : t_ins 208 57 = some (.ifCond .ne 5) := by decide +kernel
theorem i_208_60 : t_ins 208 60 = some (.iconst (-1)) := by decide +kernel
theorem i_208_61 : t_ins 208 61 = some (.ireturn) := by decide +kernel
theorem i_208_62 : t_ins 208 62 = some (.iload_n 3) := by decide +kernel
theorem i_208_63 : t_ins 208 63 = some (.ifCond .ne 10) := by decide +kernel
theorem i_208_66 : t_ins 208 66 = some (.aload_n 0) := by decide +kernel
theorem i_208_67 : t_ins 208 67 = some (.getfield 281) := by decide +kernel
theorem i_208_70 : t_ins 208 70 = some (.goto 37) := by decide +kernel
theorem i_208_73 : t_ins 208 73 = some (.iload_n 3) := by decide +kernel
theorem i_208_74 : t_ins 208 74 = some (.iconst 1) := by decide +kernel
theorem i_208_75 : t_ins 208 75 = some (.if_icmp .ne 19) := by decide +kernel
theorem i_208_78 : t_ins 208 78 = some (.aload_n 0) := by decide +kernel
theorem i_208_79 : t_ins 208 79 = some (.aload_n 0) := by decide +kernel
theorem i_208_80 : t_ins 208 80 = some (.getfield 39) := by decide +kernel
theorem i_208_83 : t_ins 208 83 = some (.iconst 0) := by decide +kernel
theorem i_208_84 : t_ins 208 84 = some (.aload_n 0) := by decide +kernel
theorem i_208_85 : t_ins 208 85 = some (.getfield 281) := by decide +kernel
theorem i_208_88 : t_ins 208 88 = some (.invokevirtual 320) := by decide +kernel
theorem i_208_91 : t_ins 208 91 = some (.goto 16) := by decide +kernel
theorem i_208_94 : t_ins 208 94 = some (.aload_n 0) := by decide +kernel
theorem i_208_95 : t_ins 208 95 = some (.aload_n 0) := by decide +kernel
theorem i_208_96 : t_ins 208 96 = some (.getfield 39) := by decide +kernel
theorem i_208_99 : t_ins 208 99 = some (.iconst 0) := by decide +kernel
theorem i_208_100 : t_ins 208 100 = some (.aload_n 0) := by decide +kernel
theorem i_208_101 : t_ins 208 101 = some (.getfield 281) := by decide +kernel
theorem i_208_104 : t_ins 208 104 = some (.invokevirtual 324) := by decide +kernel
theorem i_208_107 : t_ins 208 107 = some (.ireturn) := by decide +kernel
theorem q_208_0 : XX d 208 0 [some (.ref a), v1, v2, v3] st A Q ↔ XX d 208 1 [some (.ref a), v1, v2, v3] (.ref a :: st) A Q := c_lcl i_208_0 rfl rfl
theorem q_208_1 : XX d 208 1 [v0, v1, v2, v3] st A Q ↔ XX d 208 2 [v0, v1, v2, v3] (.int (w 0) :: st) A Q := c_stk i_208_1 rfl
theorem q_208_2 : XX d 208 2 [v0, v1, v2, v3] (.int x :: .ref a :: st) (mk S I L R G) Q ↔ S a = some (.inr 12) ∧ XX d 208 5 [v0, v1, v2, v3] st (mk S (wr I a (up (I a) 0 x)) L R G) Q := r_pf i_208_2 rfl (by decide) rfl rfl rfl
theorem q_208_5 : XX d 208 5 [some (.ref a), v1, v2, v3] st A Q ↔ XX d 208 6 [some (.ref a), v1, v2, v3] (.ref a :: st) A Q := c_lcl i_208_5 rfl rfl
theorem q_208_6 : XX d 208 6 [v0, some (.int x), v2, v3] st A Q ↔ XX d 208 7 [v0, some (.int x), v2, v3] (.int x :: st) A Q := c_lcl i_208_6 rfl rfl
theorem q_208_7 : XX (d + 1) 208 7 [v0, v1, v2, v3] [.int x0, .ref a1] A Q ↔ XC d 182 [.int x0] A (XK (d + 1) 208 7 [v0, v1, v2, v3] [.ref a1] Q) := c_callS i_208_7 rfl rfl rfl rfl (Nat.le_of_ble_eq_true rfl) (Nat.le_of_ble_eq_true rfl)
theorem q_208_10 : XX d 208 10 [v0, v1, v2, v3] (.int x :: st) A Q ↔ if x = w 0 then XX d 208 13 [v0, v1, v2, v3] st A Q else XX d 208 17 [v0, v1, v2, v3] st A Q := z_ne i_208_10 rfl rfl rfl
theorem q_208_13 : XX d 208 13 [v0, v1, v2, v3] st A Q ↔ XX d 208 14 [v0, v1, v2, v3] (.int (w 1) :: st) A Q := c_stk i_208_13 rfl
theorem q_208_14 : XX d 208 14 [v0, v1, v2, v3] st A Q ↔ XX d 208 18 [v0, v1, v2, v3] st A Q := c_go i_208_14 rfl rfl
theorem q_208_17 : XX d 208 17 [v0, v1, v2, v3] st A Q ↔ XX d 208 18 [v0, v1, v2, v3] (.int (w 0) :: st) A Q := c_stk i_208_17 rfl
theorem q_208_18 : XX d 208 18 [v0, v1, v2, v3] st A Q ↔ XX d 208 19 [v0, v1, v2, v3] (.int (w 1) :: st) A Q := c_stk i_208_18 rfl
theorem q_208_19 : XX d 208 19 [v0, v1, v2, v3] st A Q ↔ XX d 208 20 [v0, v1, v2, v3] (.int (w 0) :: st) A Q := c_stk i_208_19 rfl
theorem q_208_20 : XX (d + 1) 208 20 [v0, v1, v2, v3] [.int x3, .int x2, .int x1, .ref a0] (mk S I L R G) Q ↔ S a0 = some (.inr 12) ∧ XC d 154 [.ref a0, .int x1, .int x2, .int x3] (mk S I L R G) (XK (d + 1) 208 20 [v0, v1, v2, v3] [] Q) := c_callV i_208_20 rfl rfl rfl rfl (Nat.le_of_ble_eq_true rfl) (Nat.le_of_ble_eq_true rfl) rfl
theorem q_208_23 : XX d 208 23 [v0, v1, v2, v3] (.int x :: st) A Q ↔ if x = w 0 then XX d 208 26 [v0, v1, v2, v3] st A Q else XX d 208 49 [v0, v1, v2, v3] st A Q := z_ne i_208_23 rfl rfl rfl
theorem q_208_26 : XX d 208 26 [some (.ref a), v1, v2, v3] st A Q ↔ XX d 208 27 [some (.ref a), v1, v2, v3] (.ref a :: st) A Q := c_lcl i_208_26 rfl rfl
theorem q_208_27 : XX d 208 27 [v0, v1, v2, some (.int x)] st A Q ↔ XX d 208 28 [v0, v1, v2, some (.int x)] (.int x :: st) A Q := c_lcl i_208_27 rfl rfl
theorem q_208_28 : XX d 208 28 [v0, v1, v2, v3] st A Q ↔ XX d 208 29 [v0, v1, v2, v3] (.int (w 0) :: st) A Q := c_stk i_208_28 rfl
theorem q_208_29 : XX d 208 29 [v0, v1, v2, v3] st A Q ↔ XX d 208 30 [v0, v1, v2, v3] (.int (w 2) :: st) A Q := c_stk i_208_29 rfl
theorem q_208_30 : XX (d + 1) 208 30 [v0, v1, v2, v3] [.int x2, .int x1, .int x0, .ref a3] A Q ↔ XC d 155 [.int x0, .int x1, .int x2] A (XK (d + 1) 208 30 [v0, v1, v2, v3] [.ref a3] Q) := c_callS i_208_30 rfl rfl rfl rfl (Nat.le_of_ble_eq_true rfl) (Nat.le_of_ble_eq_true rfl)
theorem q_208_33 : XX d 208 33 [v0, v1, v2, v3] (.int x :: st) A Q ↔ if x = w 0 then XX d 208 36 [v0, v1, v2, v3] st A Q else XX d 208 40 [v0, v1, v2, v3] st A Q := z_ne i_208_33 rfl rfl rfl
theorem q_208_36 : XX d 208 36 [v0, v1, v2, v3] st A Q ↔ XX d 208 37 [v0, v1, v2, v3] (.int (w 1) :: st) A Q := c_stk i_208_36 rfl
theorem q_208_37 : XX d 208 37 [v0, v1, v2, v3] st A Q ↔ XX d 208 41 [v0, v1, v2, v3] st A Q := c_go i_208_37 rfl rfl
theorem q_208_40 : XX d 208 40 [v0, v1, v2, v3] st A Q ↔ XX d 208 41 [v0, v1, v2, v3] (.int (w 0) :: st) A Q := c_stk i_208_40 rfl
theorem q_208_41 : XX d 208 41 [v0, v1, v2, v3] st A Q ↔ XX d 208 42 [v0, v1, v2, v3] (.int (w 2) :: st) A Q := c_stk i_208_41 rfl
theorem q_208_42 : XX d 208 42 [v0, v1, v2, v3] st A Q ↔ XX d 208 43 [v0, v1, v2, v3] (.int (w 1) :: st) A Q := c_stk i_208_42 rfl
theorem q_208_43 : XX (d + 1) 208 43 [v0, v1, v2, v3] [.int x3, .int x2, .int x1, .ref a0] (mk S I L R G) Q ↔ S a0 = some (.inr 12) ∧ XC d 154 [.ref a0, .int x1, .int x2, .int x3] (mk S I L R G) (XK (d + 1) 208 43 [v0, v1, v2, v3] [] Q) := c_callV i_208_43 rfl rfl rfl rfl (Nat.le_of_ble_eq_true rfl) (Nat.le_of_ble_eq_true rfl) rfl
theorem q_208_46 : XX d 208 46 [v0, v1, v2, v3] (.int x :: st) A Q ↔ if x = w 0 then XX d 208 51 [v0, v1, v2, v3] st A Q else XX d 208 49 [v0, v1, v2, v3] st A Q := z_eq i_208_46 rfl rfl rfl
theorem q_208_49 : XX d 208 49 [v0, v1, v2, v3] st A Q ↔ XX d 208 50 [v0, v1, v2, v3] (.int (w 0) :: st) A Q := c_stk i_208_49 rfl
theorem q_208_50 : XX d 208 50 [v0, v1, v2, v3] [.int x] A Q ↔ Q (.inl (some (.int x))) A := e_retI i_208_50 rfl
theorem q_208_51 : XX d 208 51 [some (.ref a), v1, v2, v3] st A Q ↔ XX d 208 52 [some (.ref a), v1, v2, v3] (.ref a :: st) A Q := c_lcl i_208_51 rfl rfl
theorem q_208_52 : XX d 208 52 [v0, some (.int x), v2, v3] st A Q ↔ XX d 208 53 [v0, some (.int x), v2, v3] (.int x :: st) A Q := c_lcl i_208_52 rfl rfl
theorem q_208_53 : XX d 208 53 [v0, v1, some (.int x), v3] st A Q ↔ XX d 208 54 [v0, v1, some (.int x), v3] (.int x :: st) A Q := c_lcl i_208_53 rfl rfl
theorem q_208_54 : XX (d + 1) 208 54 [v0, v1, v2, v3] [.int x2, .int x1, .ref a0] (mk S I L R G) Q ↔ S a0 = some (.inr 12) ∧ XC d 193 [.ref a0, .int x1, .int x2] (mk S I L R G) (XK (d + 1) 208 54 [v0, v1, v2, v3] [] Q) := c_callV i_208_54 rfl rfl rfl rfl (Nat.le_of_ble_eq_true rfl) (Nat.le_of_ble_eq_true rfl) rfl
theorem q_208_57 : XX d 208 57 [v0, v1, v2, v3] (.int x :: st) A Q ↔ if x = w 0 then XX d 208 60 [v0, v1, v2, v3] st A Q else XX d 208 62 [v0, v1, v2, v3] st A Q := z_ne i_208_57 rfl rfl rfl
theorem q_208_60 : XX d 208 60 [v0, v1, v2, v3] st A Q ↔ XX d 208 61 [v0, v1, v2, v3] (.int (w (-1)) :: st) A Q := c_stk i_208_60 rfl
theorem q_208_61 : XX d 208 61 [v0, v1, v2, v3] [.int x] A Q ↔ Q (.inl (some (.int x))) A := e_retI i_208_61 rfl
theorem q_208_62 : XX d 208 62 [v0, v1, v2, some (.int x)] st A Q ↔ XX d 208 63 [v0, v1, v2, some (.int x)] (.int x :: st) A Q := c_lcl i_208_62 rfl rfl
theorem q_208_63 : XX d 208 63 [v0, v1, v2, v3] (.int x :: st) A Q ↔ if x = w 0 then XX d 208 66 [v0, v1, v2, v3] st A Q else XX d 208 73 [v0, v1, v2, v3] st A Q := z_ne i_208_63 rfl rfl rfl
theorem q_208_66 : XX d 208 66 [some (.ref a), v1, v2, v3] st A Q ↔ XX d 208 67 [some (.ref a), v1, v2, v3] (.ref a :: st) A Q := c_lcl i_208_66 rfl rfl
theorem q_208_67 : XX d 208 67 [v0, v1, v2, v3] (.ref a :: st) (mk S I L R G) Q ↔ S a = some (.inr 12) ∧ XX d 208 70 [v0, v1, v2, v3] (.int (I a 16) :: st) (mk S I L R G) Q := r_gf i_208_67 rfl (by decide) rfl
theorem q_208_70 : XX d 208 70 [v0, v1, v2, v3] st A Q ↔ XX d 208 107 [v0, v1, v2, v3] st A Q := c_go i_208_70 rfl rfl
theorem q_208_73 : XX d 208 73 [v0, v1, v2, some (.int x)] st A Q ↔ XX d 208 74 [v0, v1, v2, some (.int x)] (.int x :: st) A Q := c_lcl i_208_73 rfl rfl
theorem q_208_74 : XX d 208 74 [v0, v1, v2, v3] st A Q ↔ XX d 208 75 [v0, v1, v2, v3] (.int (w 1) :: st) A Q := c_stk i_208_74 rfl
theorem q_208_75 : XX d 208 75 [v0, v1, v2, v3] (.int y :: .int x :: st) A Q ↔ if x = y then XX d 208 78 [v0, v1, v2, v3] st A Q else XX d 208 94 [v0, v1, v2, v3] st A Q := b_ne i_208_75 rfl rfl rfl
theorem q_208_78 : XX d 208 78 [some (.ref a), v1, v2, v3] st A Q ↔ XX d 208 79 [some (.ref a), v1, v2, v3] (.ref a :: st) A Q := c_lcl i_208_78 rfl rfl
theorem q_208_79 : XX d 208 79 [some (.ref a), v1, v2, v3] st A Q ↔ XX d 208 80 [some (.ref a), v1, v2, v3] (.ref a :: st) A Q := c_lcl i_208_79 rfl rfl
theorem q_208_80 : XX d 208 80 [v0, v1, v2, v3] (.ref a :: st) (mk S I L R G) Q ↔ S a = some (.inr 12) ∧ XX d 208 83 [v0, v1, v2, v3] (.ref (a + 6541) :: st) (mk S I L R G) Q := r_gf i_208_80 rfl (by decide) rfl
theorem q_208_83 : XX d 208 83 [v0, v1, v2, v3] st A Q ↔ XX d 208 84 [v0, v1, v2, v3] (.int (w 0) :: st) A Q := c_stk i_208_83 rfl
theorem q_208_84 : XX d 208 84 [some (.ref a), v1, v2, v3] st A Q ↔ XX d 208 85 [some (.ref a), v1, v2, v3] (.ref a :: st) A Q := c_lcl i_208_84 rfl rfl
theorem q_208_85 : XX d 208 85 [v0, v1, v2, v3] (.ref a :: st) (mk S I L R G) Q ↔ S a = some (.inr 12) ∧ XX d 208 88 [v0, v1, v2, v3] (.int (I a 16) :: st) (mk S I L R G) Q := r_gf i_208_85 rfl (by decide) rfl
theorem q_208_88 : XX (d + 1) 208 88 [v0, v1, v2, v3] [.int x3, .int x2, .ref a1, .ref a0] (mk S I L R G) Q ↔ S a0 = some (.inr 12) ∧ XC d 206 [.ref a0, .ref a1, .int x2, .int x3] (mk S I L R G) (XK (d + 1) 208 88 [v0, v1, v2, v3] [] Q) := c_callV i_208_88 rfl rfl rfl rfl (Nat.le_of_ble_eq_true rfl) (Nat.le_of_ble_eq_true rfl) rfl
theorem q_208_91 : XX d 208 91 [v0, v1, v2, v3] st A Q ↔ XX d 208 107 [v0, v1, v2, v3] st A Q := c_go i_208_91 rfl rfl
theorem q_208_94 : XX d 208 94 [some (.ref a), v1, v2, v3] st A Q ↔ XX d 208 95 [some (.ref a), v1, v2, v3] (.ref a :: st) A Q := c_lcl i_208_94 rfl rfl
theorem q_208_95 : XX d 208 95 [some (.ref a), v1, v2, v3] st A Q ↔ XX d 208 96 [some (.ref a), v1, v2, v3] (.ref a :: st) A Q := c_lcl i_208_95 rfl rfl
theorem q_208_96 : XX d 208 96 [v0, v1, v2, v3] (.ref a :: st) (mk S I L R G) Q ↔ S a = some (.inr 12) ∧ XX d 208 99 [v0, v1, v2, v3] (.ref (a + 6541) :: st) (mk S I L R G) Q := r_gf i_208_96 rfl (by decide) rfl
theorem q_208_99 : XX d 208 99 [v0, v1, v2, v3] st A Q ↔ XX d 208 100 [v0, v1, v2, v3] (.int (w 0) :: st) A Q := c_stk i_208_99 rfl
theorem q_208_100 : XX d 208 100 [some (.ref a), v1, v2, v3] st A Q ↔ XX d 208 101 [some (.ref a), v1, v2, v3] (.ref a :: st) A Q := c_lcl i_208_100 rfl rfl
theorem q_208_101 : XX d 208 101 [v0, v1, v2, v3] (.ref a :: st) (mk S I L R G) Q ↔ S a = some (.inr 12) ∧ XX d 208 104 [v0, v1, v2, v3] (.int (I a 16) :: st) (mk S I L R G) Q := r_gf i_208_101 rfl (by decide) rfl
theorem q_208_104 : XX (d + 1) 208 104 [v0, v1, v2, v3] [.int x3, .int x2, .ref a1, .ref a0] (mk S I L R G) Q ↔ S a0 = some (.inr 12) ∧ XC d 207 [.ref a0, .ref a1, .int x2, .int x3] (mk S I L R G) (XK (d + 1) 208 104 [v0, v1, v2, v3] [] Q) := c_callV i_208_104 rfl rfl rfl rfl (Nat.le_of_ble_eq_true rfl) (Nat.le_of_ble_eq_true rfl) rfl
theorem q_208_107 : XX d 208 107 [v0, v1, v2, v3] [.int x] A Q ↔ Q (.inl (some (.int x))) A := e_retI i_208_107 rfl
theorem q_208_e : XC d 208 [.ref a0, .int x1, .int x2, .int x3] A Q ↔ XX d 208 0 [some (.ref a0), some (.int x1), some (.int x2), some (.int x3)] [] A Q := Iff.rfl
end

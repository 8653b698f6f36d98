/-! rows of methods 223 to 233 -/
section
variable {d : Nat} {Q : XO → Hp → Prop} {S : SH} {I : MI} {L : ML} {R : MR} {G : MG} {A : Hp} {st : List Value} {x y z x0 x1 x2 x3 x4 x5 x6 x7 x8 x9 : Int32} {lx ly l0 l1 l2 l3 l4 l5 l6 : Int64} {t kk jj a b a0 a1 a2 a3 a4 a5 a6 a7 a8 a9 : Nat} {o o0 o1 o2 o3 o4 : Option Nat} {v0 v1 v2 v3 v4 v5 v6 v7 v8 v9 v10 v11 v12 v13 v14 v15 v16 v17 v18 v19 v20 : Option Value}
theorem i_223_0 : t_ins 223 0 = some (.aload_n 0) := by decide +kernel
theorem i_223_1 : t_ins 223 1 = some (.iload_n 1) := by decide +kernel
theorem i_223_2 : t_ins 223 2 = some (.invokevirtual 301) := by decide +kernel
theorem i_223_5 : t_ins 223 5 = some (.iconst 0) := by decide +kernel
theorem i_223_6 : t_ins 223 6 = some (.istore_n 2) := by decide +kernel
theorem i_223_7 : t_ins 223 7 = some (.iload_n 2) := by decide +kernel
theorem i_223_8 : t_ins 223 8 = some (.aload_n 0) := by decide +kernel
theorem i_223_9 : t_ins 223 9 = some (.getfield 356) := by decide +kernel
theorem i_223_12 : t_ins 223 12 = some (.if_icmp .ge 80) := by decide +kernel
theorem i_223_15 : t_ins 223 15 = some (.iload_n 2) := by decide +kernel
theorem i_223_16 : t_ins 223 16 = some (.iconst 1) := by decide +kernel
theorem i_223_17 : t_ins 223 17 = some (.iadd) := by decide +kernel
theorem i_223_18 : t_ins 223 18 = some (.istore_n 3) := by decide +kernel
theorem i_223_19 : t_ins 223 19 = some (.iload_n 3) := by decide +kernel
theorem i_223_20 : t_ins 223 20 = some (.aload_n 0) := by decide +kernel
theorem i_223_21 : t_ins 223 21 = some (.getfield 356) := by decide +kernel
theorem i_223_24 : t_ins 223 24 = some (.if_icmp .gt 62) := by decide +kernel
theorem i_223_27 : t_ins 223 27 = some (.aload_n 0) := by decide +kernel
theorem i_223_28 : t_ins 223 28 = some (.aload_n 0) := by decide +kernel
theorem i_223_29 : t_ins 223 29 = some (.getfield 79) := by decide +kernel
theorem i_223_32 : t_ins 223 32 = some (.aload_n 0) := by decide +kernel
theorem i_223_33 : t_ins 223 33 = some (.getfield 82) := by decide +kernel
theorem i_223_36 : t_ins 223 36 = some (.iload_n 2) := by decide +kernel
theorem i_223_37 : t_ins 223 37 = some (.iaload) := by decide +kernel
theorem i_223_38 : t_ins 223 38 = some (.aload_n 0) := by decide +kernel
theorem i_223_39 : t_ins 223 39 = some (.getfield 85) := by decide +kernel
theorem i_223_42 : t_ins 223 42 = some (.iload_n 3) := by decide +kernel
theorem i_223_43 : t_ins 223 43 = some (.iconst 1) := by decide +kernel
theorem i_223_44 : t_ins 223 44 = some (.isub) := by decide +kernel
theorem i_223_45 : t_ins 223 45 = some (.iaload) := by decide +kernel
theorem i_223_46 : t_ins 223 46 = some (.aload_n 0) := by decide +kernel
theorem i_223_47 : t_ins 223 47 = some (.getfield 82) := by decide +kernel
theorem i_223_50 : t_ins 223 50 = some (.iload_n 2) := by decide +kernel
theorem i_223_51 : t_ins 223 51 = some (.iaload) := by decide +kernel
theorem i_223_52 : t_ins 223 52 = some (.isub) := by decide +kernel
theorem i_223_53 : t_ins 223 53 = some (.invokevirtual 352) := by decide +kernel
theorem i_223_56 : t_ins 223 56 = some (.aload_n 0) := by decide +kernel
theorem i_223_57 : t_ins 223 57 = some (.getfield 88) := by decide +kernel
theorem i_223_60 : t_ins 223 60 = some (.iload_n 2) := by decide +kernel
theorem i_223_61 : t_ins 223 61 = some (.aaload) := by decide +kernel
theorem i_223_62 : t_ins 223 62 = some (.iload_n 3) := by decide +kernel
theorem i_223_63 : t_ins 223 63 = some (.aload_n 0) := by decide +kernel
theorem i_223_64 : t_ins 223 64 = some (.getfield 339) := by decide +kernel
theorem i_223_67 : t_ins 223 67 = some (.iastore) := by decide +kernel
theorem i_223_68 : t_ins 223 68 = some (.aload_n 0) := by decide +kernel
theorem i_223_69 : t_ins 223 69 = some (.getfield 91) := by decide +kernel
theorem i_223_72 : t_ins 223 72 = some (.iload_n 2) := by decide +kernel
theorem i_223_73 : t_ins 223 73 = some (.aaload) := by decide +kernel
theorem i_223_74 : t_ins 223 74 = some (.iload_n 3) := by decide +kernel
theorem i_223_75 : t_ins 223 75 = some (.aload_n 0) := by decide +kernel
theorem i_223_76 : t_ins 223 76 = some (.getfield 342) := by decide +kernel
theorem i_223_79 : t_ins 223 79 = some (.iastore) := by decide +kernel
theorem i_223_80 : t_ins 223 80 = some (.iinc 3 1) := by decide +kernel
theorem i_223_83 : t_ins 223 83 = some (.goto (-64)) := by decide +kernel
theorem i_223_86 : t_ins 223 86 = some (.iinc 2 1) := by decide +kernel
theorem i_223_89 : t_ins 223 89 = some (.goto (-82)) := by decide +kernel
theorem i_223_92 : t_ins 223 92 = some (.aload_n 0) := by decide +kernel
theorem i_223_93 : t_ins 223 93 = some (.getfield 100) := by decide +kernel
theorem i_223_96 : t_ins 223 96 = some (.aload_n 0) := by decide +kernel
theorem i_223_97 : t_ins 223 97 = some (.getfield 356) := by decide +kernel
theorem i_223_100 : t_ins 223 100 = some (.lconst 1) := by decide +kernel
theorem i_223_101 : t_ins 223 101 = some (.lastore) := by decide +kernel
theorem i_223_102 : t_ins 223 102 = some (.aload_n 0) := by decide +kernel
theorem i_223_103 : t_ins 223 103 = some (.getfield 94) := by decide +kernel
theorem i_223_106 : t_ins 223 106 = some (.aload_n 0) := by decide +kernel
theorem i_223_107 : t_ins 223 107 = some (.getfield 356) := by decide +kernel
theorem i_223_110 : t_ins 223 110 = some (.iconst 0) := by decide +kernel
theorem i_223_111 : t_ins 223 111 = some (.iastore) := by decide +kernel
theorem i_223_112 : t_ins 223 112 = some (.aload_n 0) := by decide +kernel
theorem i_223_113 : t_ins 223 113 = some (.getfield 356) := by decide +kernel
theorem i_223_116 : t_ins 223 116 = some (.iconst 1) := by decide +kernel
theorem i_223_117 : t_ins 223 117 = some (.isub) := by decide +kernel
theorem i_223_118 : t_ins 223 118 = some (.istore_n 2) := by decide +kernel
theorem i_223_119 : t_ins 223 119 = some (.iload_n 2) := by decide +kernel
theorem i_223_120 : t_ins 223 120 = some (.ifCond .lt 160) := by decide +kernel
theorem i_223_123 : t_ins 223 123 = some (.aload_n 0) := by decide +kernel
theorem i_223_124 : t_ins 223 124 = some (.getfield 100) := by decide +kernel
theorem i_223_127 : t_ins 223 127 = some (.iload_n 2) := by decide +kernel
theorem i_223_128 : t_ins 223 128 = some (.lconst 0) := by decide +kernel
theorem i_223_129 : t_ins 223 129 = some (.lastore) := by decide +kernel
theorem i_223_130 : t_ins 223 130 = some (.aload_n 0) := by decide +kernel
theorem i_223_131 : t_ins 223 131 = some (.getfield 94) := by decide +kernel
theorem i_223_134 : t_ins 223 134 = some (.iload_n 2) := by decide +kernel
theorem i_223_135 : t_ins 223 135 = some (.iconst (-1)) := by decide +kernel
theorem i_223_136 : t_ins 223 136 = some (.iastore) := by decide +kernel
theorem i_223_137 : t_ins 223 137 = some (.iload_n 2) := by decide +kernel
theorem i_223_138 : t_ins 223 138 = some (.iconst 1) := by decide +kernel
theorem i_223_139 : t_ins 223 139 = some (.iadd) := by decide +kernel
theorem i_223_140 : t_ins 223 140 = some (.istore_n 3) := by decide +kernel
theorem i_223_141 : t_ins 223 141 = some (.iload_n 3) := by decide +kernel
theorem i_223_142 : t_ins 223 142 = some (.aload_n 0) := by decide +kernel
theorem i_223_143 : t_ins 223 143 = some (.getfield 356) := by decide +kernel
theorem i_223_146 : t_ins 223 146 = some (.if_icmp .gt 128) := by decide +kernel
theorem i_223_149 : t_ins 223 149 = some (.aload_n 0) := by decide +kernel
theorem i_223_150 : t_ins 223 150 = some (.getfield 100) := by decide +kernel
theorem i_223_153 : t_ins 223 153 = some (.iload_n 2) := by decide +kernel
theorem i_223_154 : t_ins 223 154 = some (.dup2) := by decide +kernel
theorem i_223_155 : t_ins 223 155 = some (.laload) := by decide +kernel
theorem i_223_156 : t_ins 223 156 = some (.aload_n 0) := by decide +kernel
theorem i_223_157 : t_ins 223 157 = some (.getfield 88) := by decide +kernel
theorem i_223_160 : t_ins 223 160 = some (.iload_n 2) := by decide +kernel
theorem i_223_161 : t_ins 223 161 = some (.aaload) := by decide +kernel
theorem i_223_162 : t_ins 223 162 = some (.iload_n 3) := by decide +kernel
theorem i_223_163 : t_ins 223 163 = some (.iaload) := by decide +kernel
theorem i_223_164 : t_ins 223 164 = some (.i2l) := by decide +kernel
theorem i_223_165 : t_ins 223 165 = some (.aload_n 0) := by decide +kernel
theorem i_223_166 : t_ins 223 166 = some (.getfield 100) := by decide +kernel
theorem i_223_169 : t_ins 223 169 = some (.iload_n 3) := by decide +kernel
theorem i_223_170 : t_ins 223 170 = some (.laload) := by decide +kernel
theorem i_223_171 : t_ins 223 171 = some (.lmul) := by decide +kernel
theorem i_223_172 : t_ins 223 172 = some (.ladd) := by decide +kernel
theorem i_223_173 : t_ins 223 173 = some (.lastore) := by decide +kernel
theorem i_223_174 : t_ins 223 174 = some (.aload_n 0) := by decide +kernel
theorem i_223_175 : t_ins 223 175 = some (.getfield 100) := by decide +kernel
theorem i_223_178 : t_ins 223 178 = some (.iload_n 2) := by decide +kernel
theorem i_223_179 : t_ins 223 179 = some (.laload) := by decide +kernel
theorem i_223_180 : t_ins 223 180 = some (.ldc2_w 362) := by decide +kernel
theorem i_223_183 : t_ins 223 183 = some (.lcmp) := by decide +kernel
theorem i_223_184 : t_ins 223 184 = some (.ifCond .le 12) := by decide +kernel
theorem i_223_187 : t_ins 223 187 = some (.aload_n 0) := by decide +kernel
theorem i_223_188 : t_ins 223 188 = some (.getfield 100) := by decide +kernel
theorem i_223_191 : t_ins 223 191 = some (.iload_n 2) := by decide +kernel
theorem i_223_192 : t_ins 223 192 = some (.ldc2_w 362) := by decide +kernel
theorem i_223_195 : t_ins 223 195 = some (.lastore) := by decide +kernel
theorem i_223_196 : t_ins 223 196 = some (.aload_n 0) := by decide +kernel
theorem i_223_197 : t_ins 223 197 = some (.getfield 88) := by decide +kernel
theorem i_223_200 : t_ins 223 200 = some (.iload_n 2) := by decide +kernel
theorem i_223_201 : t_ins 223 201 = some (.aaload) := by decide +kernel
theorem i_223_202 : t_ins 223 202 = some (.iload_n 3) := by decide +kernel
theorem i_223_203 : t_ins 223 203 = some (.iaload) := by decide +kernel
theorem i_223_204 : t_ins 223 204 = some (.ifCond .eq 64) := by decide +kernel
theorem i_223_207 : t_ins 223 207 = some (.aload_n 0) := by decide +kernel
theorem i_223_208 : t_ins 223 208 = some (.getfield 94) := by decide +kernel
theorem i_223_211 : t_ins 223 211 = some (.iload_n 3) := by decide +kernel
theorem i_223_212 : t_ins 223 212 = some (.iaload) := by decide +kernel
theorem i_223_213 : t_ins 223 213 = some (.iconst (-1)) := by decide +kernel
theorem i_223_214 : t_ins 223 214 = some (.if_icmp .eq 54) := by decide +kernel
theorem i_223_217 : t_ins 223 217 = some (.aload_n 0) := by decide +kernel
theorem i_223_218 : t_ins 223 218 = some (.getfield 94) := by decide +kernel
theorem i_223_221 : t_ins 223 221 = some (.iload_n 2) := by decide +kernel
theorem i_223_222 : t_ins 223 222 = some (.iaload) := by decide +kernel
theorem i_223_223 : t_ins 223 223 = some (.iconst (-1)) := by decide +kernel
theorem i_223_224 : t_ins 223 224 = some (.if_icmp .eq 23) := by decide +kernel
theorem i_223_227 : t_ins 223 227 = some (.aload_n 0) := by decide +kernel
theorem i_223_228 : t_ins 223 228 = some (.getfield 94) := by decide +kernel
theorem i_223_231 : t_ins 223 231 = some (.iload_n 3) := by decide +kernel
theorem i_223_232 : t_ins 223 232 = some (.iaload) := by decide +kernel
theorem i_223_233 : t_ins 223 233 = some (.iconst 1) := by decide +kernel
theorem i_223_234 : t_ins 223 234 = some (.iadd) := by decide +kernel
theorem i_223_235 : t_ins 223 235 = some (.aload_n 0) := by decide +kernel
theorem i_223_236 : t_ins 223 236 = some (.getfield 94) := by decide +kernel
theorem i_223_239 : t_ins 223 239 = some (.iload_n 2) := by decide +kernel
theorem i_223_240 : t_ins 223 240 = some (.iaload) := by decide +kernel
theorem i_223_241 : t_ins 223 241 = some (.if_icmp .le 6) := by decide +kernel
theorem i_223_244 : t_ins 223 244 = some (.goto 24) := by decide +kernel
theorem i_223_247 : t_ins 223 247 = some (.aload_n 0) := by decide +kernel
theorem i_223_248 : t_ins 223 248 = some (.getfield 94) := by decide +kernel
theorem i_223_251 : t_ins 223 251 = some (.iload_n 2) := by decide +kernel
theorem i_223_252 : t_ins 223 252 = some (.aload_n 0) := by decide +kernel
theorem i_223_253 : t_ins 223 253 = some (.getfield 94) := by decide +kernel
theorem i_223_256 : t_ins 223 256 = some (.iload_n 3) := by decide +kernel
theorem i_223_257 : t_ins 223 257 = some (.iaload) := by decide +kernel
theorem i_223_258 : t_ins 223 258 = some (.iconst 1) := by decide +kernel
theorem i_223_259 : t_ins 223 259 = some (.iadd) := by decide +kernel
theorem i_223_260 : t_ins 223 260 = some (.iastore) := by decide +kernel
theorem i_223_261 : t_ins 223 261 = some (.aload_n 0) := by decide +kernel
theorem i_223_262 : t_ins 223 262 = some (.getfield 97) := by decide +kernel
theorem i_223_265 : t_ins 223 265 = some (.iload_n 2) := by decide +kernel
theorem i_223_266 : t_ins 223 266 = some (.iload_n 3) := by decide +kernel
theorem i_223_267 : t_ins 223 267 = some (.iastore) := by decide +kernel
theorem i_223_268 : t_ins 223 268 = some (.iinc 3 1) := by decide +kernel
theorem i_223_271 : t_ins 223 271 = some (.goto (-130)) := by decide +kernel
theorem i_223_274 : t_ins 223 274 = some (.iinc 2 (-1)) := by decide +kernel
theorem i_223_277 : t_ins 223 277 = some (.goto (-158)) := by decide +kernel
theorem i_223_280 : t_ins 223 280 = some (.return_) := by decide +kernel
theorem q_223_0 : XX d 223 0 [some (.ref a), v1, v2, v3] st A Q ↔ XX d 223 1 [some (.ref a), v1, v2, v3] (.ref a :: st) A Q := c_lcl i_223_0 rfl rfl
theorem q_223_1 : XX d 223 1 [v0, some (.int x), v2, v3] st A Q ↔ XX d 223 2 [v0, some (.int x), v2, v3] (.int x :: st) A Q := c_lcl i_223_1 rfl rfl
theorem q_223_2 : XX (d + 1) 223 2 [v0, v1, v2, v3] [.int x1, .ref a0] (mk S I L R G) Q ↔ S a0 = some (.inr 12) ∧ XC d 194 [.ref a0, .int x1] (mk S I L R G) (XK (d + 1) 223 2 [v0, v1, v2, v3] [] Q) := c_callV i_223_2 rfl rfl rfl rfl (Nat.le_of_ble_eq_true rfl) (Nat.le_of_ble_eq_true rfl) rfl
theorem q_223_5 : XX d 223 5 [v0, v1, v2, v3] st A Q ↔ XX d 223 6 [v0, v1, v2, v3] (.int (w 0) :: st) A Q := c_stk i_223_5 rfl
theorem q_223_6 : XX d 223 6 [v0, some (.int z), v2, v3] (.int x :: st) A Q ↔ XX d 223 7 [v0, some (.int z), some (.int x), v3] st A Q := c_lcl i_223_6 rfl rfl
theorem q_223_7 : XX d 223 7 [v0, v1, some (.int x), v3] st A Q ↔ XX d 223 8 [v0, v1, some (.int x), v3] (.int x :: st) A Q := c_lcl i_223_7 rfl rfl
theorem q_223_8 : XX d 223 8 [some (.ref a), v1, v2, v3] st A Q ↔ XX d 223 9 [some (.ref a), v1, v2, v3] (.ref a :: st) A Q := c_lcl i_223_8 rfl rfl
theorem q_223_9 : XX d 223 9 [v0, v1, v2, v3] (.ref a :: st) (mk S I L R G) Q ↔ S a = some (.inr 12) ∧ XX d 223 12 [v0, v1, v2, v3] (.int (I a 36) :: st) (mk S I L R G) Q := r_gf i_223_9 rfl (by decide) rfl
theorem q_223_12 : XX d 223 12 [v0, v1, v2, v3] (.int y :: .int x :: st) A Q ↔ if x < y then XX d 223 15 [v0, v1, v2, v3] st A Q else XX d 223 92 [v0, v1, v2, v3] st A Q := b_ge i_223_12 rfl rfl rfl
theorem q_223_15 : XX d 223 15 [v0, v1, some (.int x), v3] st A Q ↔ XX d 223 16 [v0, v1, some (.int x), v3] (.int x :: st) A Q := c_lcl i_223_15 rfl rfl
theorem q_223_16 : XX d 223 16 [v0, v1, v2, v3] st A Q ↔ XX d 223 17 [v0, v1, v2, v3] (.int (w 1) :: st) A Q := c_stk i_223_16 rfl
theorem q_223_17 : XX d 223 17 [v0, v1, v2, v3] (.int y :: .int x :: st) A Q ↔ XX d 223 18 [v0, v1, v2, v3] (.int (x + y) :: st) A Q := c_stk i_223_17 rfl
theorem q_223_18 : XX d 223 18 [v0, v1, some (.int z), v3] (.int x :: st) A Q ↔ XX d 223 19 [v0, v1, some (.int z), some (.int x)] st A Q := c_lcl i_223_18 rfl rfl
theorem q_223_19 : XX d 223 19 [v0, v1, v2, some (.int x)] st A Q ↔ XX d 223 20 [v0, v1, v2, some (.int x)] (.int x :: st) A Q := c_lcl i_223_19 rfl rfl
theorem q_223_20 : XX d 223 20 [some (.ref a), v1, v2, v3] st A Q ↔ XX d 223 21 [some (.ref a), v1, v2, v3] (.ref a :: st) A Q := c_lcl i_223_20 rfl rfl
theorem q_223_21 : XX d 223 21 [v0, v1, v2, v3] (.ref a :: st) (mk S I L R G) Q ↔ S a = some (.inr 12) ∧ XX d 223 24 [v0, v1, v2, v3] (.int (I a 36) :: st) (mk S I L R G) Q := r_gf i_223_21 rfl (by decide) rfl
theorem q_223_24 : XX d 223 24 [v0, v1, v2, v3] (.int y :: .int x :: st) A Q ↔ if y < x then XX d 223 86 [v0, v1, v2, v3] st A Q else XX d 223 27 [v0, v1, v2, v3] st A Q := b_gt i_223_24 rfl rfl rfl
theorem q_223_27 : XX d 223 27 [some (.ref a), v1, v2, v3] st A Q ↔ XX d 223 28 [some (.ref a), v1, v2, v3] (.ref a :: st) A Q := c_lcl i_223_27 rfl rfl
theorem q_223_28 : XX d 223 28 [some (.ref a), v1, v2, v3] st A Q ↔ XX d 223 29 [some (.ref a), v1, v2, v3] (.ref a :: st) A Q := c_lcl i_223_28 rfl rfl
theorem q_223_29 : XX d 223 29 [v0, v1, v2, v3] (.ref a :: st) (mk S I L R G) Q ↔ S a = some (.inr 12) ∧ XX d 223 32 [v0, v1, v2, v3] (.ref (a + 6585) :: st) (mk S I L R G) Q := r_gf i_223_29 rfl (by decide) rfl
theorem q_223_32 : XX d 223 32 [some (.ref a), v1, v2, v3] st A Q ↔ XX d 223 33 [some (.ref a), v1, v2, v3] (.ref a :: st) A Q := c_lcl i_223_32 rfl rfl
theorem q_223_33 : XX d 223 33 [v0, v1, v2, v3] (.ref a :: st) (mk S I L R G) Q ↔ S a = some (.inr 12) ∧ XX d 223 36 [v0, v1, v2, v3] (.ref (a + 6586) :: st) (mk S I L R G) Q := r_gf i_223_33 rfl (by decide) rfl
theorem q_223_36 : XX d 223 36 [v0, v1, some (.int x), v3] st A Q ↔ XX d 223 37 [v0, v1, some (.int x), v3] (.int x :: st) A Q := c_lcl i_223_36 rfl rfl
theorem q_223_37 : XX d 223 37 [v0, v1, v2, v3] (.int x :: .ref a :: st) (mk S I L R G) Q ↔ inA (S a) ok_i x ∧ XX d 223 38 [v0, v1, v2, v3] (.int (I a (ix x)) :: st) (mk S I L R G) Q := r_ia i_223_37
theorem q_223_38 : XX d 223 38 [some (.ref a), v1, v2, v3] st A Q ↔ XX d 223 39 [some (.ref a), v1, v2, v3] (.ref a :: st) A Q := c_lcl i_223_38 rfl rfl
theorem q_223_39 : XX d 223 39 [v0, v1, v2, v3] (.ref a :: st) (mk S I L R G) Q ↔ S a = some (.inr 12) ∧ XX d 223 42 [v0, v1, v2, v3] (.ref (a + 6587) :: st) (mk S I L R G) Q := r_gf i_223_39 rfl (by decide) rfl
theorem q_223_42 : XX d 223 42 [v0, v1, v2, some (.int x)] st A Q ↔ XX d 223 43 [v0, v1, v2, some (.int x)] (.int x :: st) A Q := c_lcl i_223_42 rfl rfl
theorem q_223_43 : XX d 223 43 [v0, v1, v2, v3] st A Q ↔ XX d 223 44 [v0, v1, v2, v3] (.int (w 1) :: st) A Q := c_stk i_223_43 rfl
theorem q_223_44 : XX d 223 44 [v0, v1, v2, v3] (.int y :: .int x :: st) A Q ↔ XX d 223 45 [v0, v1, v2, v3] (.int (x - y) :: st) A Q := c_stk i_223_44 rfl
theorem q_223_45 : XX d 223 45 [v0, v1, v2, v3] (.int x :: .ref a :: st) (mk S I L R G) Q ↔ inA (S a) ok_i x ∧ XX d 223 46 [v0, v1, v2, v3] (.int (I a (ix x)) :: st) (mk S I L R G) Q := r_ia i_223_45
theorem q_223_46 : XX d 223 46 [some (.ref a), v1, v2, v3] st A Q ↔ XX d 223 47 [some (.ref a), v1, v2, v3] (.ref a :: st) A Q := c_lcl i_223_46 rfl rfl
theorem q_223_47 : XX d 223 47 [v0, v1, v2, v3] (.ref a :: st) (mk S I L R G) Q ↔ S a = some (.inr 12) ∧ XX d 223 50 [v0, v1, v2, v3] (.ref (a + 6586) :: st) (mk S I L R G) Q := r_gf i_223_47 rfl (by decide) rfl
theorem q_223_50 : XX d 223 50 [v0, v1, some (.int x), v3] st A Q ↔ XX d 223 51 [v0, v1, some (.int x), v3] (.int x :: st) A Q := c_lcl i_223_50 rfl rfl
theorem q_223_51 : XX d 223 51 [v0, v1, v2, v3] (.int x :: .ref a :: st) (mk S I L R G) Q ↔ inA (S a) ok_i x ∧ XX d 223 52 [v0, v1, v2, v3] (.int (I a (ix x)) :: st) (mk S I L R G) Q := r_ia i_223_51
theorem q_223_52 : XX d 223 52 [v0, v1, v2, v3] (.int y :: .int x :: st) A Q ↔ XX d 223 53 [v0, v1, v2, v3] (.int (x - y) :: st) A Q := c_stk i_223_52 rfl
theorem q_223_53 : XX (d + 1) 223 53 [v0, v1, v2, v3] [.int x3, .int x2, .ref a1, .ref a0] (mk S I L R G) Q ↔ S a0 = some (.inr 12) ∧ XC d 219 [.ref a0, .ref a1, .int x2, .int x3] (mk S I L R G) (XK (d + 1) 223 53 [v0, v1, v2, v3] [] Q) := c_callV i_223_53 rfl rfl rfl rfl (Nat.le_of_ble_eq_true rfl) (Nat.le_of_ble_eq_true rfl) rfl
theorem q_223_56 : XX d 223 56 [some (.ref a), v1, v2, v3] st A Q ↔ XX d 223 57 [some (.ref a), v1, v2, v3] (.ref a :: st) A Q := c_lcl i_223_56 rfl rfl
theorem q_223_57 : XX d 223 57 [v0, v1, v2, v3] (.ref a :: st) (mk S I L R G) Q ↔ S a = some (.inr 12) ∧ XX d 223 60 [v0, v1, v2, v3] (.ref (a + 6588) :: st) (mk S I L R G) Q := r_gf i_223_57 rfl (by decide) rfl
theorem q_223_60 : XX d 223 60 [v0, v1, some (.int x), v3] st A Q ↔ XX d 223 61 [v0, v1, some (.int x), v3] (.int x :: st) A Q := c_lcl i_223_60 rfl rfl
theorem q_223_61 : XX d 223 61 [v0, v1, v2, v3] (.int x :: .ref a :: st) (mk S I L R G) Q ↔ inA (S a) ok_q x ∧ XX d 223 62 [v0, v1, v2, v3] (va_rf (R a (ix x)) :: st) (mk S I L R G) Q := r_aq i_223_61
theorem q_223_62 : XX d 223 62 [v0, v1, v2, some (.int x)] st A Q ↔ XX d 223 63 [v0, v1, v2, some (.int x)] (.int x :: st) A Q := c_lcl i_223_62 rfl rfl
theorem q_223_63 : XX d 223 63 [some (.ref a), v1, v2, v3] st A Q ↔ XX d 223 64 [some (.ref a), v1, v2, v3] (.ref a :: st) A Q := c_lcl i_223_63 rfl rfl
theorem q_223_64 : XX d 223 64 [v0, v1, v2, v3] (.ref a :: st) (mk S I L R G) Q ↔ S a = some (.inr 12) ∧ XX d 223 67 [v0, v1, v2, v3] (.int (I a 33) :: st) (mk S I L R G) Q := r_gf i_223_64 rfl (by decide) rfl
theorem q_223_67 : XX d 223 67 [v0, v1, v2, v3] (.int y :: .int x :: .ref a :: st) (mk S I L R G) Q ↔ inA (S a) ok_0 x ∧ XX d 223 68 [v0, v1, v2, v3] st (mk S (wr I a (up (I a) (ix x) y)) L R G) Q := r_ias i_223_67
theorem q_223_68 : XX d 223 68 [some (.ref a), v1, v2, v3] st A Q ↔ XX d 223 69 [some (.ref a), v1, v2, v3] (.ref a :: st) A Q := c_lcl i_223_68 rfl rfl
theorem q_223_69 : XX d 223 69 [v0, v1, v2, v3] (.ref a :: st) (mk S I L R G) Q ↔ S a = some (.inr 12) ∧ XX d 223 72 [v0, v1, v2, v3] (.ref (a + 6629) :: st) (mk S I L R G) Q := r_gf i_223_69 rfl (by decide) rfl
theorem q_223_72 : XX d 223 72 [v0, v1, some (.int x), v3] st A Q ↔ XX d 223 73 [v0, v1, some (.int x), v3] (.int x :: st) A Q := c_lcl i_223_72 rfl rfl
theorem q_223_73 : XX d 223 73 [v0, v1, v2, v3] (.int x :: .ref a :: st) (mk S I L R G) Q ↔ inA (S a) ok_q x ∧ XX d 223 74 [v0, v1, v2, v3] (va_rf (R a (ix x)) :: st) (mk S I L R G) Q := r_aq i_223_73
theorem q_223_74 : XX d 223 74 [v0, v1, v2, some (.int x)] st A Q ↔ XX d 223 75 [v0, v1, v2, some (.int x)] (.int x :: st) A Q := c_lcl i_223_74 rfl rfl
theorem q_223_75 : XX d 223 75 [some (.ref a), v1, v2, v3] st A Q ↔ XX d 223 76 [some (.ref a), v1, v2, v3] (.ref a :: st) A Q := c_lcl i_223_75 rfl rfl
theorem q_223_76 : XX d 223 76 [v0, v1, v2, v3] (.ref a :: st) (mk S I L R G) Q ↔ S a = some (.inr 12) ∧ XX d 223 79 [v0, v1, v2, v3] (.int (I a 34) :: st) (mk S I L R G) Q := r_gf i_223_76 rfl (by decide) rfl
theorem q_223_79 : XX d 223 79 [v0, v1, v2, v3] (.int y :: .int x :: .ref a :: st) (mk S I L R G) Q ↔ inA (S a) ok_0 x ∧ XX d 223 80 [v0, v1, v2, v3] st (mk S (wr I a (up (I a) (ix x) y)) L R G) Q := r_ias i_223_79
theorem q_223_80 : XX d 223 80 [v0, v1, some (.int z), some (.int x)] st A Q ↔ XX d 223 83 [v0, v1, some (.int z), some (.int (x + w 1))] st A Q := c_lcl i_223_80 rfl rfl
theorem q_223_83 : XX d 223 83 [v0, v1, v2, v3] st A Q ↔ XX d 223 19 [v0, v1, v2, v3] st A Q := c_go i_223_83 rfl rfl
theorem q_223_86 : XX d 223 86 [v0, some (.int z), some (.int x), v3] st A Q ↔ XX d 223 89 [v0, some (.int z), some (.int (x + w 1)), v3] st A Q := c_lcl i_223_86 rfl rfl
theorem q_223_89 : XX d 223 89 [v0, v1, v2, v3] st A Q ↔ XX d 223 7 [v0, v1, v2, v3] st A Q := c_go i_223_89 rfl rfl
theorem q_223_92 : XX d 223 92 [some (.ref a), v1, v2, v3] st A Q ↔ XX d 223 93 [some (.ref a), v1, v2, v3] (.ref a :: st) A Q := c_lcl i_223_92 rfl rfl
theorem q_223_93 : XX d 223 93 [v0, v1, v2, v3] (.ref a :: st) (mk S I L R G) Q ↔ S a = some (.inr 12) ∧ XX d 223 96 [v0, v1, v2, v3] (.ref (a + 6672) :: st) (mk S I L R G) Q := r_gf i_223_93 rfl (by decide) rfl
theorem q_223_96 : XX d 223 96 [some (.ref a), v1, v2, v3] st A Q ↔ XX d 223 97 [some (.ref a), v1, v2, v3] (.ref a :: st) A Q := c_lcl i_223_96 rfl rfl
theorem q_223_97 : XX d 223 97 [v0, v1, v2, v3] (.ref a :: st) (mk S I L R G) Q ↔ S a = some (.inr 12) ∧ XX d 223 100 [v0, v1, v2, v3] (.int (I a 36) :: st) (mk S I L R G) Q := r_gf i_223_97 rfl (by decide) rfl
theorem q_223_100 : XX d 223 100 [v0, v1, v2, v3] st A Q ↔ XX d 223 101 [v0, v1, v2, v3] (.long (wl 1) :: st) A Q := c_stk i_223_100 rfl
theorem q_223_101 : XX d 223 101 [v0, v1, v2, v3] (.long ly :: .int x :: .ref a :: st) (mk S I L R G) Q ↔ inA (S a) ok_l x ∧ XX d 223 102 [v0, v1, v2, v3] st (mk S I (wr L a (up (L a) (ix x) ly)) R G) Q := r_las i_223_101
theorem q_223_102 : XX d 223 102 [some (.ref a), v1, v2, v3] st A Q ↔ XX d 223 103 [some (.ref a), v1, v2, v3] (.ref a :: st) A Q := c_lcl i_223_102 rfl rfl
theorem q_223_103 : XX d 223 103 [v0, v1, v2, v3] (.ref a :: st) (mk S I L R G) Q ↔ S a = some (.inr 12) ∧ XX d 223 106 [v0, v1, v2, v3] (.ref (a + 6670) :: st) (mk S I L R G) Q := r_gf i_223_103 rfl (by decide) rfl
theorem q_223_106 : XX d 223 106 [some (.ref a), v1, v2, v3] st A Q ↔ XX d 223 107 [some (.ref a), v1, v2, v3] (.ref a :: st) A Q := c_lcl i_223_106 rfl rfl
theorem q_223_107 : XX d 223 107 [v0, v1, v2, v3] (.ref a :: st) (mk S I L R G) Q ↔ S a = some (.inr 12) ∧ XX d 223 110 [v0, v1, v2, v3] (.int (I a 36) :: st) (mk S I L R G) Q := r_gf i_223_107 rfl (by decide) rfl
theorem q_223_110 : XX d 223 110 [v0, v1, v2, v3] st A Q ↔ XX d 223 111 [v0, v1, v2, v3] (.int (w 0) :: st) A Q := c_stk i_223_110 rfl
theorem q_223_111 : XX d 223 111 [v0, v1, v2, v3] (.int y :: .int x :: .ref a :: st) (mk S I L R G) Q ↔ inA (S a) ok_0 x ∧ XX d 223 112 [v0, v1, v2, v3] st (mk S (wr I a (up (I a) (ix x) y)) L R G) Q := r_ias i_223_111
theorem q_223_112 : XX d 223 112 [some (.ref a), v1, v2, v3] st A Q ↔ XX d 223 113 [some (.ref a), v1, v2, v3] (.ref a :: st) A Q := c_lcl i_223_112 rfl rfl
theorem q_223_113 : XX d 223 113 [v0, v1, v2, v3] (.ref a :: st) (mk S I L R G) Q ↔ S a = some (.inr 12) ∧ XX d 223 116 [v0, v1, v2, v3] (.int (I a 36) :: st) (mk S I L R G) Q := r_gf i_223_113 rfl (by decide) rfl
theorem q_223_116 : XX d 223 116 [v0, v1, v2, v3] st A Q ↔ XX d 223 117 [v0, v1, v2, v3] (.int (w 1) :: st) A Q := c_stk i_223_116 rfl
theorem q_223_117 : XX d 223 117 [v0, v1, v2, v3] (.int y :: .int x :: st) A Q ↔ XX d 223 118 [v0, v1, v2, v3] (.int (x - y) :: st) A Q := c_stk i_223_117 rfl
theorem q_223_118 : XX d 223 118 [v0, some (.int z), v2, v3] (.int x :: st) A Q ↔ XX d 223 119 [v0, some (.int z), some (.int x), v3] st A Q := c_lcl i_223_118 rfl rfl
theorem q_223_119 : XX d 223 119 [v0, v1, some (.int x), v3] st A Q ↔ XX d 223 120 [v0, v1, some (.int x), v3] (.int x :: st) A Q := c_lcl i_223_119 rfl rfl
theorem q_223_120 : XX d 223 120 [v0, v1, v2, v3] (.int x :: st) A Q ↔ if x < w 0 then XX d 223 280 [v0, v1, v2, v3] st A Q else XX d 223 123 [v0, v1, v2, v3] st A Q := z_lt i_223_120 rfl rfl rfl
theorem q_223_123 : XX d 223 123 [some (.ref a), v1, v2, v3] st A Q ↔ XX d 223 124 [some (.ref a), v1, v2, v3] (.ref a :: st) A Q := c_lcl i_223_123 rfl rfl
theorem q_223_124 : XX d 223 124 [v0, v1, v2, v3] (.ref a :: st) (mk S I L R G) Q ↔ S a = some (.inr 12) ∧ XX d 223 127 [v0, v1, v2, v3] (.ref (a + 6672) :: st) (mk S I L R G) Q := r_gf i_223_124 rfl (by decide) rfl
theorem q_223_127 : XX d 223 127 [v0, v1, some (.int x), v3] st A Q ↔ XX d 223 128 [v0, v1, some (.int x), v3] (.int x :: st) A Q := c_lcl i_223_127 rfl rfl
theorem q_223_128 : XX d 223 128 [v0, v1, v2, v3] st A Q ↔ XX d 223 129 [v0, v1, v2, v3] (.long (wl 0) :: st) A Q := c_stk i_223_128 rfl
theorem q_223_129 : XX d 223 129 [v0, v1, v2, v3] (.long ly :: .int x :: .ref a :: st) (mk S I L R G) Q ↔ inA (S a) ok_l x ∧ XX d 223 130 [v0, v1, v2, v3] st (mk S I (wr L a (up (L a) (ix x) ly)) R G) Q := r_las i_223_129
theorem q_223_130 : XX d 223 130 [some (.ref a), v1, v2, v3] st A Q ↔ XX d 223 131 [some (.ref a), v1, v2, v3] (.ref a :: st) A Q := c_lcl i_223_130 rfl rfl
theorem q_223_131 : XX d 223 131 [v0, v1, v2, v3] (.ref a :: st) (mk S I L R G) Q ↔ S a = some (.inr 12) ∧ XX d 223 134 [v0, v1, v2, v3] (.ref (a + 6670) :: st) (mk S I L R G) Q := r_gf i_223_131 rfl (by decide) rfl
theorem q_223_134 : XX d 223 134 [v0, v1, some (.int x), v3] st A Q ↔ XX d 223 135 [v0, v1, some (.int x), v3] (.int x :: st) A Q := c_lcl i_223_134 rfl rfl
theorem q_223_135 : XX d 223 135 [v0, v1, v2, v3] st A Q ↔ XX d 223 136 [v0, v1, v2, v3] (.int (w (-1)) :: st) A Q := c_stk i_223_135 rfl
theorem q_223_136 : XX d 223 136 [v0, v1, v2, v3] (.int y :: .int x :: .ref a :: st) (mk S I L R G) Q ↔ inA (S a) ok_0 x ∧ XX d 223 137 [v0, v1, v2, v3] st (mk S (wr I a (up (I a) (ix x) y)) L R G) Q := r_ias i_223_136
theorem q_223_137 : XX d 223 137 [v0, v1, some (.int x), v3] st A Q ↔ XX d 223 138 [v0, v1, some (.int x), v3] (.int x :: st) A Q := c_lcl i_223_137 rfl rfl
theorem q_223_138 : XX d 223 138 [v0, v1, v2, v3] st A Q ↔ XX d 223 139 [v0, v1, v2, v3] (.int (w 1) :: st) A Q := c_stk i_223_138 rfl
theorem q_223_139 : XX d 223 139 [v0, v1, v2, v3] (.int y :: .int x :: st) A Q ↔ XX d 223 140 [v0, v1, v2, v3] (.int (x + y) :: st) A Q := c_stk i_223_139 rfl
theorem q_223_140 : XX d 223 140 [v0, v1, some (.int z), v3] (.int x :: st) A Q ↔ XX d 223 141 [v0, v1, some (.int z), some (.int x)] st A Q := c_lcl i_223_140 rfl rfl
theorem q_223_141 : XX d 223 141 [v0, v1, v2, some (.int x)] st A Q ↔ XX d 223 142 [v0, v1, v2, some (.int x)] (.int x :: st) A Q := c_lcl i_223_141 rfl rfl
theorem q_223_142 : XX d 223 142 [some (.ref a), v1, v2, v3] st A Q ↔ XX d 223 143 [some (.ref a), v1, v2, v3] (.ref a :: st) A Q := c_lcl i_223_142 rfl rfl
theorem q_223_143 : XX d 223 143 [v0, v1, v2, v3] (.ref a :: st) (mk S I L R G) Q ↔ S a = some (.inr 12) ∧ XX d 223 146 [v0, v1, v2, v3] (.int (I a 36) :: st) (mk S I L R G) Q := r_gf i_223_143 rfl (by decide) rfl
theorem q_223_146 : XX d 223 146 [v0, v1, v2, v3] (.int y :: .int x :: st) A Q ↔ if y < x then XX d 223 274 [v0, v1, v2, v3] st A Q else XX d 223 149 [v0, v1, v2, v3] st A Q := b_gt i_223_146 rfl rfl rfl
theorem q_223_149 : XX d 223 149 [some (.ref a), v1, v2, v3] st A Q ↔ XX d 223 150 [some (.ref a), v1, v2, v3] (.ref a :: st) A Q := c_lcl i_223_149 rfl rfl
theorem q_223_150 : XX d 223 150 [v0, v1, v2, v3] (.ref a :: st) (mk S I L R G) Q ↔ S a = some (.inr 12) ∧ XX d 223 153 [v0, v1, v2, v3] (.ref (a + 6672) :: st) (mk S I L R G) Q := r_gf i_223_150 rfl (by decide) rfl
theorem q_223_153 : XX d 223 153 [v0, v1, some (.int x), v3] st A Q ↔ XX d 223 154 [v0, v1, some (.int x), v3] (.int x :: st) A Q := c_lcl i_223_153 rfl rfl
theorem q_223_154 : XX d 223 154 [v0, v1, v2, v3] (.int x1 :: .ref a2 :: st) A Q ↔ XX d 223 155 [v0, v1, v2, v3] (.int x1 :: .ref a2 :: .int x1 :: .ref a2 :: st) A Q := c_stk i_223_154 rfl
theorem q_223_155 : XX d 223 155 [v0, v1, v2, v3] (.int x :: .ref a :: st) (mk S I L R G) Q ↔ inA (S a) ok_l x ∧ XX d 223 156 [v0, v1, v2, v3] (.long (L a (ix x)) :: st) (mk S I L R G) Q := r_la i_223_155
theorem q_223_156 : XX d 223 156 [some (.ref a), v1, v2, v3] st A Q ↔ XX d 223 157 [some (.ref a), v1, v2, v3] (.ref a :: st) A Q := c_lcl i_223_156 rfl rfl
theorem q_223_157 : XX d 223 157 [v0, v1, v2, v3] (.ref a :: st) (mk S I L R G) Q ↔ S a = some (.inr 12) ∧ XX d 223 160 [v0, v1, v2, v3] (.ref (a + 6588) :: st) (mk S I L R G) Q := r_gf i_223_157 rfl (by decide) rfl
theorem q_223_160 : XX d 223 160 [v0, v1, some (.int x), v3] st A Q ↔ XX d 223 161 [v0, v1, some (.int x), v3] (.int x :: st) A Q := c_lcl i_223_160 rfl rfl
theorem q_223_161 : XX d 223 161 [v0, v1, v2, v3] (.int x :: .ref a :: st) (mk S I L R G) Q ↔ inA (S a) ok_q x ∧ XX d 223 162 [v0, v1, v2, v3] (va_rf (R a (ix x)) :: st) (mk S I L R G) Q := r_aq i_223_161
theorem q_223_162 : XX d 223 162 [v0, v1, v2, some (.int x)] st A Q ↔ XX d 223 163 [v0, v1, v2, some (.int x)] (.int x :: st) A Q := c_lcl i_223_162 rfl rfl
theorem q_223_163 : XX d 223 163 [v0, v1, v2, v3] (.int x :: .ref a :: st) (mk S I L R G) Q ↔ inA (S a) ok_i x ∧ XX d 223 164 [v0, v1, v2, v3] (.int (I a (ix x)) :: st) (mk S I L R G) Q := r_ia i_223_163
theorem q_223_164 : XX d 223 164 [v0, v1, v2, v3] (.int x :: st) A Q ↔ XX d 223 165 [v0, v1, v2, v3] (.long x.toInt64 :: st) A Q := c_stk i_223_164 rfl
theorem q_223_165 : XX d 223 165 [some (.ref a), v1, v2, v3] st A Q ↔ XX d 223 166 [some (.ref a), v1, v2, v3] (.ref a :: st) A Q := c_lcl i_223_165 rfl rfl
theorem q_223_166 : XX d 223 166 [v0, v1, v2, v3] (.ref a :: st) (mk S I L R G) Q ↔ S a = some (.inr 12) ∧ XX d 223 169 [v0, v1, v2, v3] (.ref (a + 6672) :: st) (mk S I L R G) Q := r_gf i_223_166 rfl (by decide) rfl
theorem q_223_169 : XX d 223 169 [v0, v1, v2, some (.int x)] st A Q ↔ XX d 223 170 [v0, v1, v2, some (.int x)] (.int x :: st) A Q := c_lcl i_223_169 rfl rfl
theorem q_223_170 : XX d 223 170 [v0, v1, v2, v3] (.int x :: .ref a :: st) (mk S I L R G) Q ↔ inA (S a) ok_l x ∧ XX d 223 171 [v0, v1, v2, v3] (.long (L a (ix x)) :: st) (mk S I L R G) Q := r_la i_223_170
theorem q_223_171 : XX d 223 171 [v0, v1, v2, v3] (.long ly :: .long lx :: st) A Q ↔ XX d 223 172 [v0, v1, v2, v3] (.long (lx * ly) :: st) A Q := c_stk i_223_171 rfl
theorem q_223_172 : XX d 223 172 [v0, v1, v2, v3] (.long ly :: .long lx :: st) A Q ↔ XX d 223 173 [v0, v1, v2, v3] (.long (lx + ly) :: st) A Q := c_stk i_223_172 rfl
theorem q_223_173 : XX d 223 173 [v0, v1, v2, v3] (.long ly :: .int x :: .ref a :: st) (mk S I L R G) Q ↔ inA (S a) ok_l x ∧ XX d 223 174 [v0, v1, v2, v3] st (mk S I (wr L a (up (L a) (ix x) ly)) R G) Q := r_las i_223_173
theorem q_223_174 : XX d 223 174 [some (.ref a), v1, v2, v3] st A Q ↔ XX d 223 175 [some (.ref a), v1, v2, v3] (.ref a :: st) A Q := c_lcl i_223_174 rfl rfl
theorem q_223_175 : XX d 223 175 [v0, v1, v2, v3] (.ref a :: st) (mk S I L R G) Q ↔ S a = some (.inr 12) ∧ XX d 223 178 [v0, v1, v2, v3] (.ref (a + 6672) :: st) (mk S I L R G) Q := r_gf i_223_175 rfl (by decide) rfl
theorem q_223_178 : XX d 223 178 [v0, v1, some (.int x), v3] st A Q ↔ XX d 223 179 [v0, v1, some (.int x), v3] (.int x :: st) A Q := c_lcl i_223_178 rfl rfl
theorem q_223_179 : XX d 223 179 [v0, v1, v2, v3] (.int x :: .ref a :: st) (mk S I L R G) Q ↔ inA (S a) ok_l x ∧ XX d 223 180 [v0, v1, v2, v3] (.long (L a (ix x)) :: st) (mk S I L R G) Q := r_la i_223_179
theorem q_223_180 : XX d 223 180 [v0, v1, v2, v3] st A Q ↔ XX d 223 183 [v0, v1, v2, v3] (.long (wl 1000000000) :: st) A Q := r_ld2 i_223_180 rfl
theorem q_223_183 : XX d 223 183 [v0, v1, v2, v3] (.long ly :: .long lx :: st) A Q ↔ XX d 223 184 [v0, v1, v2, v3] (.int (lg_cmp lx ly) :: st) A Q := c_stk i_223_183 rfl
theorem q_223_184 : XX d 223 184 [v0, v1, v2, v3] (.int x :: st) A Q ↔ if w 0 < x then XX d 223 187 [v0, v1, v2, v3] st A Q else XX d 223 196 [v0, v1, v2, v3] st A Q := z_le i_223_184 rfl rfl rfl
theorem q_223_187 : XX d 223 187 [some (.ref a), v1, v2, v3] st A Q ↔ XX d 223 188 [some (.ref a), v1, v2, v3] (.ref a :: st) A Q := c_lcl i_223_187 rfl rfl
theorem q_223_188 : XX d 223 188 [v0, v1, v2, v3] (.ref a :: st) (mk S I L R G) Q ↔ S a = some (.inr 12) ∧ XX d 223 191 [v0, v1, v2, v3] (.ref (a + 6672) :: st) (mk S I L R G) Q := r_gf i_223_188 rfl (by decide) rfl
theorem q_223_191 : XX d 223 191 [v0, v1, some (.int x), v3] st A Q ↔ XX d 223 192 [v0, v1, some (.int x), v3] (.int x :: st) A Q := c_lcl i_223_191 rfl rfl
theorem q_223_192 : XX d 223 192 [v0, v1, v2, v3] st A Q ↔ XX d 223 195 [v0, v1, v2, v3] (.long (wl 1000000000) :: st) A Q := r_ld2 i_223_192 rfl
theorem q_223_195 : XX d 223 195 [v0, v1, v2, v3] (.long ly :: .int x :: .ref a :: st) (mk S I L R G) Q ↔ inA (S a) ok_l x ∧ XX d 223 196 [v0, v1, v2, v3] st (mk S I (wr L a (up (L a) (ix x) ly)) R G) Q := r_las i_223_195
theorem q_223_196 : XX d 223 196 [some (.ref a), v1, v2, v3] st A Q ↔ XX d 223 197 [some (.ref a), v1, v2, v3] (.ref a :: st) A Q := c_lcl i_223_196 rfl rfl
theorem q_223_197 : XX d 223 197 [v0, v1, v2, v3] (.ref a :: st) (mk S I L R G) Q ↔ S a = some (.inr 12) ∧ XX d 223 200 [v0, v1, v2, v3] (.ref (a + 6588) :: st) (mk S I L R G) Q := r_gf i_223_197 rfl (by decide) rfl
theorem q_223_200 : XX d 223 200 [v0, v1, some (.int x), v3] st A Q ↔ XX d 223 201 [v0, v1, some (.int x), v3] (.int x :: st) A Q := c_lcl i_223_200 rfl rfl
theorem q_223_201 : XX d 223 201 [v0, v1, v2, v3] (.int x :: .ref a :: st) (mk S I L R G) Q ↔ inA (S a) ok_q x ∧ XX d 223 202 [v0, v1, v2, v3] (va_rf (R a (ix x)) :: st) (mk S I L R G) Q := r_aq i_223_201
theorem q_223_202 : XX d 223 202 [v0, v1, v2, some (.int x)] st A Q ↔ XX d 223 203 [v0, v1, v2, some (.int x)] (.int x :: st) A Q := c_lcl i_223_202 rfl rfl
theorem q_223_203 : XX d 223 203 [v0, v1, v2, v3] (.int x :: .ref a :: st) (mk S I L R G) Q ↔ inA (S a) ok_i x ∧ XX d 223 204 [v0, v1, v2, v3] (.int (I a (ix x)) :: st) (mk S I L R G) Q := r_ia i_223_203
theorem q_223_204 : XX d 223 204 [v0, v1, v2, v3] (.int x :: st) A Q ↔ if x = w 0 then XX d 223 268 [v0, v1, v2, v3] st A Q else XX d 223 207 [v0, v1, v2, v3] st A Q := z_eq i_223_204 rfl rfl rfl
theorem q_223_207 : XX d 223 207 [some (.ref a), v1, v2, v3] st A Q ↔ XX d 223 208 [some (.ref a), v1, v2, v3] (.ref a :: st) A Q := c_lcl i_223_207 rfl rfl
theorem q_223_208 : XX d 223 208 [v0, v1, v2, v3] (.ref a :: st) (mk S I L R G) Q ↔ S a = some (.inr 12) ∧ XX d 223 211 [v0, v1, v2, v3] (.ref (a + 6670) :: st) (mk S I L R G) Q := r_gf i_223_208 rfl (by decide) rfl
theorem q_223_211 : XX d 223 211 [v0, v1, v2, some (.int x)] st A Q ↔ XX d 223 212 [v0, v1, v2, some (.int x)] (.int x :: st) A Q := c_lcl i_223_211 rfl rfl
theorem q_223_212 : XX d 223 212 [v0, v1, v2, v3] (.int x :: .ref a :: st) (mk S I L R G) Q ↔ inA (S a) ok_i x ∧ XX d 223 213 [v0, v1, v2, v3] (.int (I a (ix x)) :: st) (mk S I L R G) Q := r_ia i_223_212
theorem q_223_213 : XX d 223 213 [v0, v1, v2, v3] st A Q ↔ XX d 223 214 [v0, v1, v2, v3] (.int (w (-1)) :: st) A Q := c_stk i_223_213 rfl
theorem q_223_214 : XX d 223 214 [v0, v1, v2, v3] (.int y :: .int x :: st) A Q ↔ if x = y then XX d 223 268 [v0, v1, v2, v3] st A Q else XX d 223 217 [v0, v1, v2, v3] st A Q := b_eq i_223_214 rfl rfl rfl
theorem q_223_217 : XX d 223 217 [some (.ref a), v1, v2, v3] st A Q ↔ XX d 223 218 [some (.ref a), v1, v2, v3] (.ref a :: st) A Q := c_lcl i_223_217 rfl rfl
theorem q_223_218 : XX d 223 218 [v0, v1, v2, v3] (.ref a :: st) (mk S I L R G) Q ↔ S a = some (.inr 12) ∧ XX d 223 221 [v0, v1, v2, v3] (.ref (a + 6670) :: st) (mk S I L R G) Q := r_gf i_223_218 rfl (by decide) rfl
theorem q_223_221 : XX d 223 221 [v0, v1, some (.int x), v3] st A Q ↔ XX d 223 222 [v0, v1, some (.int x), v3] (.int x :: st) A Q := c_lcl i_223_221 rfl rfl
theorem q_223_222 : XX d 223 222 [v0, v1, v2, v3] (.int x :: .ref a :: st) (mk S I L R G) Q ↔ inA (S a) ok_i x ∧ XX d 223 223 [v0, v1, v2, v3] (.int (I a (ix x)) :: st) (mk S I L R G) Q := r_ia i_223_222
theorem q_223_223 : XX d 223 223 [v0, v1, v2, v3] st A Q ↔ XX d 223 224 [v0, v1, v2, v3] (.int (w (-1)) :: st) A Q := c_stk i_223_223 rfl
theorem q_223_224 : XX d 223 224 [v0, v1, v2, v3] (.int y :: .int x :: st) A Q ↔ if x = y then XX d 223 247 [v0, v1, v2, v3] st A Q else XX d 223 227 [v0, v1, v2, v3] st A Q := b_eq i_223_224 rfl rfl rfl
theorem q_223_227 : XX d 223 227 [some (.ref a), v1, v2, v3] st A Q ↔ XX d 223 228 [some (.ref a), v1, v2, v3] (.ref a :: st) A Q := c_lcl i_223_227 rfl rfl
theorem q_223_228 : XX d 223 228 [v0, v1, v2, v3] (.ref a :: st) (mk S I L R G) Q ↔ S a = some (.inr 12) ∧ XX d 223 231 [v0, v1, v2, v3] (.ref (a + 6670) :: st) (mk S I L R G) Q := r_gf i_223_228 rfl (by decide) rfl
theorem q_223_231 : XX d 223 231 [v0, v1, v2, some (.int x)] st A Q ↔ XX d 223 232 [v0, v1, v2, some (.int x)] (.int x :: st) A Q := c_lcl i_223_231 rfl rfl
theorem q_223_232 : XX d 223 232 [v0, v1, v2, v3] (.int x :: .ref a :: st) (mk S I L R G) Q ↔ inA (S a) ok_i x ∧ XX d 223 233 [v0, v1, v2, v3] (.int (I a (ix x)) :: st) (mk S I L R G) Q := r_ia i_223_232
theorem q_223_233 : XX d 223 233 [v0, v1, v2, v3] st A Q ↔ XX d 223 234 [v0, v1, v2, v3] (.int (w 1) :: st) A Q := c_stk i_223_233 rfl
theorem q_223_234 : XX d 223 234 [v0, v1, v2, v3] (.int y :: .int x :: st) A Q ↔ XX d 223 235 [v0, v1, v2, v3] (.int (x + y) :: st) A Q := c_stk i_223_234 rfl
theorem q_223_235 : XX d 223 235 [some (.ref a), v1, v2, v3] st A Q ↔ XX d 223 236 [some (.ref a), v1, v2, v3] (.ref a :: st) A Q := c_lcl i_223_235 rfl rfl
theorem q_223_236 : XX d 223 236 [v0, v1, v2, v3] (.ref a :: st) (mk S I L R G) Q ↔ S a = some (.inr 12) ∧ XX d 223 239 [v0, v1, v2, v3] (.ref (a + 6670) :: st) (mk S I L R G) Q := r_gf i_223_236 rfl (by decide) rfl
theorem q_223_239 : XX d 223 239 [v0, v1, some (.int x), v3] st A Q ↔ XX d 223 240 [v0, v1, some (.int x), v3] (.int x :: st) A Q := c_lcl i_223_239 rfl rfl
theorem q_223_240 : XX d 223 240 [v0, v1, v2, v3] (.int x :: .ref a :: st) (mk S I L R G) Q ↔ inA (S a) ok_i x ∧ XX d 223 241 [v0, v1, v2, v3] (.int (I a (ix x)) :: st) (mk S I L R G) Q := r_ia i_223_240
theorem q_223_241 : XX d 223 241 [v0, v1, v2, v3] (.int y :: .int x :: st) A Q ↔ if y < x then XX d 223 244 [v0, v1, v2, v3] st A Q else XX d 223 247 [v0, v1, v2, v3] st A Q := b_le i_223_241 rfl rfl rfl
theorem q_223_244 : XX d 223 244 [v0, v1, v2, v3] st A Q ↔ XX d 223 268 [v0, v1, v2, v3] st A Q := c_go i_223_244 rfl rfl
theorem q_223_247 : XX d 223 247 [some (.ref a), v1, v2, v3] st A Q ↔ XX d 223 248 [some (.ref a), v1, v2, v3] (.ref a :: st) A Q := c_lcl i_223_247 rfl rfl
theorem q_223_248 : XX d 223 248 [v0, v1, v2, v3] (.ref a :: st) (mk S I L R G) Q ↔ S a = some (.inr 12) ∧ XX d 223 251 [v0, v1, v2, v3] (.ref (a + 6670) :: st) (mk S I L R G) Q := r_gf i_223_248 rfl (by decide) rfl
theorem q_223_251 : XX d 223 251 [v0, v1, some (.int x), v3] st A Q ↔ XX d 223 252 [v0, v1, some (.int x), v3] (.int x :: st) A Q := c_lcl i_223_251 rfl rfl
theorem q_223_252 : XX d 223 252 [some (.ref a), v1, v2, v3] st A Q ↔ XX d 223 253 [some (.ref a), v1, v2, v3] (.ref a :: st) A Q := c_lcl i_223_252 rfl rfl
theorem q_223_253 : XX d 223 253 [v0, v1, v2, v3] (.ref a :: st) (mk S I L R G) Q ↔ S a = some (.inr 12) ∧ XX d 223 256 [v0, v1, v2, v3] (.ref (a + 6670) :: st) (mk S I L R G) Q := r_gf i_223_253 rfl (by decide) rfl
theorem q_223_256 : XX d 223 256 [v0, v1, v2, some (.int x)] st A Q ↔ XX d 223 257 [v0, v1, v2, some (.int x)] (.int x :: st) A Q := c_lcl i_223_256 rfl rfl
theorem q_223_257 : XX d 223 257 [v0, v1, v2, v3] (.int x :: .ref a :: st) (mk S I L R G) Q ↔ inA (S a) ok_i x ∧ XX d 223 258 [v0, v1, v2, v3] (.int (I a (ix x)) :: st) (mk S I L R G) Q := r_ia i_223_257
theorem q_223_258 : XX d 223 258 [v0, v1, v2, v3] st A Q ↔ XX d 223 259 [v0, v1, v2, v3] (.int (w 1) :: st) A Q := c_stk i_223_258 rfl
theorem q_223_259 : XX d 223 259 [v0, v1, v2, v3] (.int y :: .int x :: st) A Q ↔ XX d 223 260 [v0, v1, v2, v3] (.int (x + y) :: st) A Q := c_stk i_223_259 rfl
theorem q_223_260 : XX d 223 260 [v0, v1, v2, v3] (.int y :: .int x :: .ref a :: st) (mk S I L R G) Q ↔ inA (S a) ok_0 x ∧ XX d 223 261 [v0, v1, v2, v3] st (mk S (wr I a (up (I a) (ix x) y)) L R G) Q := r_ias i_223_260
theorem q_223_261 : XX d 223 261 [some (.ref a), v1, v2, v3] st A Q ↔ XX d 223 262 [some (.ref a), v1, v2, v3] (.ref a :: st) A Q := c_lcl i_223_261 rfl rfl
theorem q_223_262 : XX d 223 262 [v0, v1, v2, v3] (.ref a :: st) (mk S I L R G) Q ↔ S a = some (.inr 12) ∧ XX d 223 265 [v0, v1, v2, v3] (.ref (a + 6671) :: st) (mk S I L R G) Q := r_gf i_223_262 rfl (by decide) rfl
theorem q_223_265 : XX d 223 265 [v0, v1, some (.int x), v3] st A Q ↔ XX d 223 266 [v0, v1, some (.int x), v3] (.int x :: st) A Q := c_lcl i_223_265 rfl rfl
theorem q_223_266 : XX d 223 266 [v0, v1, v2, some (.int x)] st A Q ↔ XX d 223 267 [v0, v1, v2, some (.int x)] (.int x :: st) A Q := c_lcl i_223_266 rfl rfl
theorem q_223_267 : XX d 223 267 [v0, v1, v2, v3] (.int y :: .int x :: .ref a :: st) (mk S I L R G) Q ↔ inA (S a) ok_0 x ∧ XX d 223 268 [v0, v1, v2, v3] st (mk S (wr I a (up (I a) (ix x) y)) L R G) Q := r_ias i_223_267
theorem q_223_268 : XX d 223 268 [v0, v1, some (.int z), some (.int x)] st A Q ↔ XX d 223 271 [v0, v1, some (.int z), some (.int (x + w 1))] st A Q := c_lcl i_223_268 rfl rfl
theorem q_223_271 : XX d 223 271 [v0, v1, v2, v3] st A Q ↔ XX d 223 141 [v0, v1, v2, v3] st A Q := c_go i_223_271 rfl rfl
theorem q_223_274 : XX d 223 274 [v0, some (.int z), some (.int x), v3] st A Q ↔ XX d 223 277 [v0, some (.int z), some (.int (x + w (-1))), v3] st A Q := c_lcl i_223_274 rfl rfl
theorem q_223_277 : XX d 223 277 [v0, v1, v2, v3] st A Q ↔ XX d 223 119 [v0, v1, v2, v3] st A Q := c_go i_223_277 rfl rfl
theorem q_223_280 : XX d 223 280 [v0, v1, v2, v3] [] A Q ↔ Q (.inl none) A := e_retN i_223_280 rfl
theorem q_223_e : XC d 223 [.ref a0, .int x1] A Q ↔ XX d 223 0 [some (.ref a0), some (.int x1), none, none] [] A Q := Iff.rfl
theorem i_224_0 : t_ins 224 0 = some (.aload_n 0) := by decide +kernel
theorem i_224_1 : t_ins 224 1 = some (.getfield 94) := by decide +kernel
theorem i_224_4 : t_ins 224 4 = some (.iconst 0) := by decide +kernel
theorem i_224_5 : t_ins 224 5 = some (.iaload) := by decide +kernel
theorem i_224_6 : t_ins 224 6 = some (.iconst (-1)) := by decide +kernel
theorem i_224_7 : t_ins 224 7 = some (.if_icmp .ne 5) := by decide +kernel
theorem i_224_10 : t_ins 224 10 = some (.iconst (-1)) := by decide +kernel
theorem i_224_11 : t_ins 224 11 = some (.ireturn) := by decide +kernel
theorem i_224_12 : t_ins 224 12 = some (.lconst 0) := by decide +kernel
theorem i_224_13 : t_ins 224 13 = some (.lstore_n 1) := by decide +kernel
theorem i_224_14 : t_ins 224 14 = some (.iconst 0) := by decide +kernel
theorem i_224_15 : t_ins 224 15 = some (.istore_n 3) := by decide +kernel
theorem i_224_16 : t_ins 224 16 = some (.iload_n 3) := by decide +kernel
theorem i_224_17 : t_ins 224 17 = some (.aload_n 0) := by decide +kernel
theorem i_224_18 : t_ins 224 18 = some (.getfield 356) := by decide +kernel
theorem i_224_21 : t_ins 224 21 = some (.if_icmp .ge 30) := by decide +kernel
theorem i_224_24 : t_ins 224 24 = some (.lload_n 1) := by decide +kernel
theorem i_224_25 : t_ins 224 25 = some (.aload_n 0) := by decide +kernel
theorem i_224_26 : t_ins 224 26 = some (.getfield 91) := by decide +kernel
theorem i_224_29 : t_ins 224 29 = some (.iload_n 3) := by decide +kernel
theorem i_224_30 : t_ins 224 30 = some (.aaload) := by decide +kernel
theorem i_224_31 : t_ins 224 31 = some (.aload_n 0) := by decide +kernel
theorem i_224_32 : t_ins 224 32 = some (.getfield 97) := by decide +kernel
theorem i_224_35 : t_ins 224 35 = some (.iload_n 3) := by decide +kernel
theorem i_224_36 : t_ins 224 36 = some (.iaload) := by decide +kernel
theorem i_224_37 : t_ins 224 37 = some (.iaload) := by decide +kernel
theorem i_224_38 : t_ins 224 38 = some (.i2l) := by decide +kernel
theorem i_224_39 : t_ins 224 39 = some (.ladd) := by decide +kernel
theorem i_224_40 : t_ins 224 40 = some (.lstore_n 1) := by decide +kernel
theorem i_224_41 : t_ins 224 41 = some (.aload_n 0) := by decide +kernel
theorem i_224_42 : t_ins 224 42 = some (.getfield 97) := by decide +kernel
theorem i_224_45 : t_ins 224 45 = some (.iload_n 3) := by decide +kernel
theorem i_224_46 : t_ins 224 46 = some (.iaload) := by decide +kernel
theorem i_224_47 : t_ins 224 47 = some (.istore_n 3) := by decide +kernel
theorem i_224_48 : t_ins 224 48 = some (.goto (-32)) := by decide +kernel
theorem i_224_51 : t_ins 224 51 = some (.lload_n 1) := by decide +kernel
theorem i_224_52 : t_ins 224 52 = some (.ldc2_w 362) := by decide +kernel
theorem i_224_55 : t_ins 224 55 = some (.lcmp) := by decide +kernel
theorem i_224_56 : t_ins 224 56 = some (.ifCond .le 9) := by decide +kernel
theorem i_224_59 : t_ins 224 59 = some (.ldc2_w 362) := by decide +kernel
theorem i_224_62 : t_ins 224 62 = some (.goto 4) := by decide +kernel
theorem i_224_65 : t_ins 224 65 = some (.lload_n 1) := by decide +kernel
theorem i_224_66 : t_ins 224 66 = some (.l2i) := by decide +kernel
theorem i_224_67 : t_ins 224 67 = some (.ireturn) := by decide +kernel
theorem q_224_0 : XX d 224 0 [some (.ref a), v1, v2, v3] st A Q ↔ XX d 224 1 [some (.ref a), v1, v2, v3] (.ref a :: st) A Q := c_lcl i_224_0 rfl rfl
theorem q_224_1 : XX d 224 1 [v0, v1, v2, v3] (.ref a :: st) (mk S I L R G) Q ↔ S a = some (.inr 12) ∧ XX d 224 4 [v0, v1, v2, v3] (.ref (a + 6670) :: st) (mk S I L R G) Q := r_gf i_224_1 rfl (by decide) rfl
theorem q_224_4 : XX d 224 4 [v0, v1, v2, v3] st A Q ↔ XX d 224 5 [v0, v1, v2, v3] (.int (w 0) :: st) A Q := c_stk i_224_4 rfl
theorem q_224_5 : XX d 224 5 [v0, v1, v2, v3] (.int x :: .ref a :: st) (mk S I L R G) Q ↔ inA (S a) ok_i x ∧ XX d 224 6 [v0, v1, v2, v3] (.int (I a (ix x)) :: st) (mk S I L R G) Q := r_ia i_224_5
theorem q_224_6 : XX d 224 6 [v0, v1, v2, v3] st A Q ↔ XX d 224 7 [v0, v1, v2, v3] (.int (w (-1)) :: st) A Q := c_stk i_224_6 rfl
theorem q_224_7 : XX d 224 7 [v0, v1, v2, v3] (.int y :: .int x :: st) A Q ↔ if x = y then XX d 224 10 [v0, v1, v2, v3] st A Q else XX d 224 12 [v0, v1, v2, v3] st A Q := b_ne i_224_7 rfl rfl rfl
theorem q_224_10 : XX d 224 10 [v0, v1, v2, v3] st A Q ↔ XX d 224 11 [v0, v1, v2, v3] (.int (w (-1)) :: st) A Q := c_stk i_224_10 rfl
theorem q_224_11 : XX d 224 11 [v0, v1, v2, v3] [.int x] A Q ↔ Q (.inl (some (.int x))) A := e_retI i_224_11 rfl
theorem q_224_12 : XX d 224 12 [v0, v1, v2, v3] st A Q ↔ XX d 224 13 [v0, v1, v2, v3] (.long (wl 0) :: st) A Q := c_stk i_224_12 rfl
theorem q_224_13 : XX d 224 13 [some (.ref b), v1, v2, v3] (.long lx :: st) A Q ↔ XX d 224 14 [some (.ref b), some (.long lx), none, v3] st A Q := c_lcl i_224_13 rfl rfl
theorem q_224_14 : XX d 224 14 [v0, v1, v2, v3] st A Q ↔ XX d 224 15 [v0, v1, v2, v3] (.int (w 0) :: st) A Q := c_stk i_224_14 rfl
theorem q_224_15 : XX d 224 15 [v0, v1, none, v3] (.int x :: st) A Q ↔ XX d 224 16 [v0, v1, none, some (.int x)] st A Q := c_lcl i_224_15 rfl rfl
theorem q_224_16 : XX d 224 16 [v0, v1, v2, some (.int x)] st A Q ↔ XX d 224 17 [v0, v1, v2, some (.int x)] (.int x :: st) A Q := c_lcl i_224_16 rfl rfl
theorem q_224_17 : XX d 224 17 [some (.ref a), v1, v2, v3] st A Q ↔ XX d 224 18 [some (.ref a), v1, v2, v3] (.ref a :: st) A Q := c_lcl i_224_17 rfl rfl
theorem q_224_18 : XX d 224 18 [v0, v1, v2, v3] (.ref a :: st) (mk S I L R G) Q ↔ S a = some (.inr 12) ∧ XX d 224 21 [v0, v1, v2, v3] (.int (I a 36) :: st) (mk S I L R G) Q := r_gf i_224_18 rfl (by decide) rfl
theorem q_224_21 : XX d 224 21 [v0, v1, v2, v3] (.int y :: .int x :: st) A Q ↔ if x < y then XX d 224 24 [v0, v1, v2, v3] st A Q else XX d 224 51 [v0, v1, v2, v3] st A Q := b_ge i_224_21 rfl rfl rfl
theorem q_224_24 : XX d 224 24 [v0, some (.long lx), v2, v3] st A Q ↔ XX d 224 25 [v0, some (.long lx), v2, v3] (.long lx :: st) A Q := c_lcl i_224_24 rfl rfl
theorem q_224_25 : XX d 224 25 [some (.ref a), v1, v2, v3] st A Q ↔ XX d 224 26 [some (.ref a), v1, v2, v3] (.ref a :: st) A Q := c_lcl i_224_25 rfl rfl
theorem q_224_26 : XX d 224 26 [v0, v1, v2, v3] (.ref a :: st) (mk S I L R G) Q ↔ S a = some (.inr 12) ∧ XX d 224 29 [v0, v1, v2, v3] (.ref (a + 6629) :: st) (mk S I L R G) Q := r_gf i_224_26 rfl (by decide) rfl
theorem q_224_29 : XX d 224 29 [v0, v1, v2, some (.int x)] st A Q ↔ XX d 224 30 [v0, v1, v2, some (.int x)] (.int x :: st) A Q := c_lcl i_224_29 rfl rfl
theorem q_224_30 : XX d 224 30 [v0, v1, v2, v3] (.int x :: .ref a :: st) (mk S I L R G) Q ↔ inA (S a) ok_q x ∧ XX d 224 31 [v0, v1, v2, v3] (va_rf (R a (ix x)) :: st) (mk S I L R G) Q := r_aq i_224_30
theorem q_224_31 : XX d 224 31 [some (.ref a), v1, v2, v3] st A Q ↔ XX d 224 32 [some (.ref a), v1, v2, v3] (.ref a :: st) A Q := c_lcl i_224_31 rfl rfl
theorem q_224_32 : XX d 224 32 [v0, v1, v2, v3] (.ref a :: st) (mk S I L R G) Q ↔ S a = some (.inr 12) ∧ XX d 224 35 [v0, v1, v2, v3] (.ref (a + 6671) :: st) (mk S I L R G) Q := r_gf i_224_32 rfl (by decide) rfl
theorem q_224_35 : XX d 224 35 [v0, v1, v2, some (.int x)] st A Q ↔ XX d 224 36 [v0, v1, v2, some (.int x)] (.int x :: st) A Q := c_lcl i_224_35 rfl rfl
theorem q_224_36 : XX d 224 36 [v0, v1, v2, v3] (.int x :: .ref a :: st) (mk S I L R G) Q ↔ inA (S a) ok_i x ∧ XX d 224 37 [v0, v1, v2, v3] (.int (I a (ix x)) :: st) (mk S I L R G) Q := r_ia i_224_36
theorem q_224_37 : XX d 224 37 [v0, v1, v2, v3] (.int x :: .ref a :: st) (mk S I L R G) Q ↔ inA (S a) ok_i x ∧ XX d 224 38 [v0, v1, v2, v3] (.int (I a (ix x)) :: st) (mk S I L R G) Q := r_ia i_224_37
theorem q_224_38 : XX d 224 38 [v0, v1, v2, v3] (.int x :: st) A Q ↔ XX d 224 39 [v0, v1, v2, v3] (.long x.toInt64 :: st) A Q := c_stk i_224_38 rfl
theorem q_224_39 : XX d 224 39 [v0, v1, v2, v3] (.long ly :: .long lx :: st) A Q ↔ XX d 224 40 [v0, v1, v2, v3] (.long (lx + ly) :: st) A Q := c_stk i_224_39 rfl
theorem q_224_40 : XX d 224 40 [some (.ref b), v1, v2, v3] (.long lx :: st) A Q ↔ XX d 224 41 [some (.ref b), some (.long lx), none, v3] st A Q := c_lcl i_224_40 rfl rfl
theorem q_224_41 : XX d 224 41 [some (.ref a), v1, v2, v3] st A Q ↔ XX d 224 42 [some (.ref a), v1, v2, v3] (.ref a :: st) A Q := c_lcl i_224_41 rfl rfl
theorem q_224_42 : XX d 224 42 [v0, v1, v2, v3] (.ref a :: st) (mk S I L R G) Q ↔ S a = some (.inr 12) ∧ XX d 224 45 [v0, v1, v2, v3] (.ref (a + 6671) :: st) (mk S I L R G) Q := r_gf i_224_42 rfl (by decide) rfl
theorem q_224_45 : XX d 224 45 [v0, v1, v2, some (.int x)] st A Q ↔ XX d 224 46 [v0, v1, v2, some (.int x)] (.int x :: st) A Q := c_lcl i_224_45 rfl rfl
theorem q_224_46 : XX d 224 46 [v0, v1, v2, v3] (.int x :: .ref a :: st) (mk S I L R G) Q ↔ inA (S a) ok_i x ∧ XX d 224 47 [v0, v1, v2, v3] (.int (I a (ix x)) :: st) (mk S I L R G) Q := r_ia i_224_46
theorem q_224_47 : XX d 224 47 [v0, v1, none, v3] (.int x :: st) A Q ↔ XX d 224 48 [v0, v1, none, some (.int x)] st A Q := c_lcl i_224_47 rfl rfl
theorem q_224_48 : XX d 224 48 [v0, v1, v2, v3] st A Q ↔ XX d 224 16 [v0, v1, v2, v3] st A Q := c_go i_224_48 rfl rfl
theorem q_224_51 : XX d 224 51 [v0, some (.long lx), v2, v3] st A Q ↔ XX d 224 52 [v0, some (.long lx), v2, v3] (.long lx :: st) A Q := c_lcl i_224_51 rfl rfl
theorem q_224_52 : XX d 224 52 [v0, v1, v2, v3] st A Q ↔ XX d 224 55 [v0, v1, v2, v3] (.long (wl 1000000000) :: st) A Q := r_ld2 i_224_52 rfl
theorem q_224_55 : XX d 224 55 [v0, v1, v2, v3] (.long ly :: .long lx :: st) A Q ↔ XX d 224 56 [v0, v1, v2, v3] (.int (lg_cmp lx ly) :: st) A Q := c_stk i_224_55 rfl
theorem q_224_56 : XX d 224 56 [v0, v1, v2, v3] (.int x :: st) A Q ↔ if w 0 < x then XX d 224 59 [v0, v1, v2, v3] st A Q else XX d 224 65 [v0, v1, v2, v3] st A Q := z_le i_224_56 rfl rfl rfl
theorem q_224_59 : XX d 224 59 [v0, v1, v2, v3] st A Q ↔ XX d 224 62 [v0, v1, v2, v3] (.long (wl 1000000000) :: st) A Q := r_ld2 i_224_59 rfl
theorem q_224_62 : XX d 224 62 [v0, v1, v2, v3] st A Q ↔ XX d 224 66 [v0, v1, v2, v3] st A Q := c_go i_224_62 rfl rfl
theorem q_224_65 : XX d 224 65 [v0, some (.long lx), v2, v3] st A Q ↔ XX d 224 66 [v0, some (.long lx), v2, v3] (.long lx :: st) A Q := c_lcl i_224_65 rfl rfl
theorem q_224_66 : XX d 224 66 [v0, v1, v2, v3] (.long lx :: st) A Q ↔ XX d 224 67 [v0, v1, v2, v3] (.int lx.toInt32 :: st) A Q := c_stk i_224_66 rfl
theorem q_224_67 : XX d 224 67 [v0, v1, v2, v3] [.int x] A Q ↔ Q (.inl (some (.int x))) A := e_retI i_224_67 rfl
theorem q_224_e : XC d 224 [.ref a0] A Q ↔ XX d 224 0 [some (.ref a0), none, none, none] [] A Q := Iff.rfl
theorem i_225_0 : t_ins 225 0 = some (.aload_n 0) := by decide +kernel
theorem i_225_1 : t_ins 225 1 = some (.iconst 0) := by decide +kernel
theorem i_225_2 : t_ins 225 2 = some (.putfield 121) := by decide +kernel
theorem i_225_5 : t_ins 225 5 = some (.aload_n 0) := by decide +kernel
theorem i_225_6 : t_ins 225 6 = some (.iload_n 1) := by decide +kernel
theorem i_225_7 : t_ins 225 7 = some (.invokestatic 245) := by decide +kernel
theorem i_225_10 : t_ins 225 10 = some (.ifCond .ne 7) := by decide +kernel
theorem i_225_13 : t_ins 225 13 = some (.iconst 1) := by decide +kernel
theorem i_225_14 : t_ins 225 14 = some (.goto 4) := by decide +kernel
theorem i_225_17 : t_ins 225 17 = some (.iconst 0) := by decide +kernel
theorem i_225_18 : t_ins 225 18 = some (.iconst 1) := by decide +kernel
theorem i_225_19 : t_ins 225 19 = some (.iconst 0) := by decide +kernel
theorem i_225_20 : t_ins 225 20 = some (.invokevirtual 234) := by decide +kernel
theorem i_225_23 : t_ins 225 23 = some (.ifCond .ne 34) := by decide +kernel
theorem i_225_26 : t_ins 225 26 = some (.aload_n 0) := by decide +kernel
theorem i_225_27 : t_ins 225 27 = some (.aload_n 0) := by decide +kernel
theorem i_225_28 : t_ins 225 28 = some (.iload_n 2) := by decide +kernel
theorem i_225_29 : t_ins 225 29 = some (.invokevirtual 364) := by decide +kernel
theorem i_225_32 : t_ins 225 32 = some (.ifCond .eq 12) := by decide +kernel
theorem i_225_35 : t_ins 225 35 = some (.iload_n 3) := by decide +kernel
theorem i_225_36 : t_ins 225 36 = some (.iconst 0) := by decide +kernel
theorem i_225_37 : t_ins 225 37 = some (.iconst 2) := by decide +kernel
theorem i_225_38 : t_ins 225 38 = some (.invokestatic 230) := by decide +kernel
theorem i_225_41 : t_ins 225 41 = some (.ifCond .ne 7) := by decide +kernel
theorem i_225_44 : t_ins 225 44 = some (.iconst 1) := by decide +kernel
theorem i_225_45 : t_ins 225 45 = some (.goto 4) := by decide +kernel
theorem i_225_48 : t_ins 225 48 = some (.iconst 0) := by decide +kernel
theorem i_225_49 : t_ins 225 49 = some (.iconst 2) := by decide +kernel
theorem i_225_50 : t_ins 225 50 = some (.iconst 1) := by decide +kernel
theorem i_225_51 : t_ins 225 51 = some (.invokevirtual 234) := by decide +kernel
theorem i_225_54 : t_ins 225 54 = some (.ifCond .eq 5) := by decide +kernel
theorem i_225_57 : t_ins 225 57 = some (.iconst 0) := by decide +kernel
theorem i_225_58 : t_ins 225 58 = some (.ireturn) := by decide +kernel
theorem i_225_59 : t_ins 225 59 = some (.aload_n 0) := by decide +kernel
theorem i_225_60 : t_ins 225 60 = some (.iload_n 1) := by decide +kernel
theorem i_225_61 : t_ins 225 61 = some (.invokevirtual 367) := by decide +kernel
theorem i_225_64 : t_ins 225 64 = some (.iload_n 3) := by decide +kernel
theorem i_225_65 : t_ins 225 65 = some (.ifCond .ne 13) := by decide +kernel
theorem i_225_68 : t_ins 225 68 = some (.aload_n 0) := by decide +kernel
theorem i_225_69 : t_ins 225 69 = some (.getfield 100) := by decide +kernel
theorem i_225_72 : t_ins 225 72 = some (.iconst 0) := by decide +kernel
theorem i_225_73 : t_ins 225 73 = some (.laload) := by decide +kernel
theorem i_225_74 : t_ins 225 74 = some (.l2i) := by decide +kernel
theorem i_225_75 : t_ins 225 75 = some (.goto 21) := by decide +kernel
theorem i_225_78 : t_ins 225 78 = some (.iload_n 3) := by decide +kernel
theorem i_225_79 : t_ins 225 79 = some (.iconst 1) := by decide +kernel
theorem i_225_80 : t_ins 225 80 = some (.if_icmp .ne 12) := by decide +kernel
theorem i_225_83 : t_ins 225 83 = some (.aload_n 0) := by decide +kernel
theorem i_225_84 : t_ins 225 84 = some (.getfield 94) := by decide +kernel
theorem i_225_87 : t_ins 225 87 = some (.iconst 0) := by decide +kernel
theorem i_225_88 : t_ins 225 88 = some (.iaload) := by decide +kernel
theorem i_225_89 : t_ins 225 89 = some (.goto 7) := by decide +kernel
theorem i_225_92 : t_ins 225 92 = some (.aload_n 0) := by decide +kernel
theorem i_225_93 : t_ins 225 93 = some (.invokevirtual 370) := by decide +kernel
theorem i_225_96 : t_ins 225 96 = some (.ireturn) := by decide +kernel
theorem q_225_0 : XX d 225 0 [some (.ref a), v1, v2, v3] st A Q ↔ XX d 225 1 [some (.ref a), v1, v2, v3] (.ref a :: st) A Q := c_lcl i_225_0 rfl rfl
theorem q_225_1 : XX d 225 1 [v0, v1, v2, v3] st A Q ↔ XX d 225 2 [v0, v1, v2, v3] (.int (w 0) :: st) A Q := c_stk i_225_1 rfl
theorem q_225_2 : XX d 225 2 [v0, v1, v2, v3] (.int x :: .ref a :: st) (mk S I L R G) Q ↔ S a = some (.inr 12) ∧ XX d 225 5 [v0, v1, v2, v3] st (mk S (wr I a (up (I a) 0 x)) L R G) Q := r_pf i_225_2 rfl (by decide) rfl rfl rfl
theorem q_225_5 : XX d 225 5 [some (.ref a), v1, v2, v3] st A Q ↔ XX d 225 6 [some (.ref a), v1, v2, v3] (.ref a :: st) A Q := c_lcl i_225_5 rfl rfl
theorem q_225_6 : XX d 225 6 [v0, some (.int x), v2, v3] st A Q ↔ XX d 225 7 [v0, some (.int x), v2, v3] (.int x :: st) A Q := c_lcl i_225_6 rfl rfl
theorem q_225_7 : XX (d + 1) 225 7 [v0, v1, v2, v3] [.int x0, .ref a1] A Q ↔ XC d 182 [.int x0] A (XK (d + 1) 225 7 [v0, v1, v2, v3] [.ref a1] Q) := c_callS i_225_7 rfl rfl rfl rfl (Nat.le_of_ble_eq_true rfl) (Nat.le_of_ble_eq_true rfl)
theorem q_225_10 : XX d 225 10 [v0, v1, v2, v3] (.int x :: st) A Q ↔ if x = w 0 then XX d 225 13 [v0, v1, v2, v3] st A Q else XX d 225 17 [v0, v1, v2, v3] st A Q := z_ne i_225_10 rfl rfl rfl
theorem q_225_13 : XX d 225 13 [v0, v1, v2, v3] st A Q ↔ XX d 225 14 [v0, v1, v2, v3] (.int (w 1) :: st) A Q := c_stk i_225_13 rfl
theorem q_225_14 : XX d 225 14 [v0, v1, v2, v3] st A Q ↔ XX d 225 18 [v0, v1, v2, v3] st A Q := c_go i_225_14 rfl rfl
theorem q_225_17 : XX d 225 17 [v0, v1, v2, v3] st A Q ↔ XX d 225 18 [v0, v1, v2, v3] (.int (w 0) :: st) A Q := c_stk i_225_17 rfl
theorem q_225_18 : XX d 225 18 [v0, v1, v2, v3] st A Q ↔ XX d 225 19 [v0, v1, v2, v3] (.int (w 1) :: st) A Q := c_stk i_225_18 rfl
theorem q_225_19 : XX d 225 19 [v0, v1, v2, v3] st A Q ↔ XX d 225 20 [v0, v1, v2, v3] (.int (w 0) :: st) A Q := c_stk i_225_19 rfl
theorem q_225_20 : XX (d + 1) 225 20 [v0, v1, v2, v3] [.int x3, .int x2, .int x1, .ref a0] (mk S I L R G) Q ↔ S a0 = some (.inr 12) ∧ XC d 154 [.ref a0, .int x1, .int x2, .int x3] (mk S I L R G) (XK (d + 1) 225 20 [v0, v1, v2, v3] [] Q) := c_callV i_225_20 rfl rfl rfl rfl (Nat.le_of_ble_eq_true rfl) (Nat.le_of_ble_eq_true rfl) rfl
theorem q_225_23 : XX d 225 23 [v0, v1, v2, v3] (.int x :: st) A Q ↔ if x = w 0 then XX d 225 26 [v0, v1, v2, v3] st A Q else XX d 225 57 [v0, v1, v2, v3] st A Q := z_ne i_225_23 rfl rfl rfl
theorem q_225_26 : XX d 225 26 [some (.ref a), v1, v2, v3] st A Q ↔ XX d 225 27 [some (.ref a), v1, v2, v3] (.ref a :: st) A Q := c_lcl i_225_26 rfl rfl
theorem q_225_27 : XX d 225 27 [some (.ref a), v1, v2, v3] st A Q ↔ XX d 225 28 [some (.ref a), v1, v2, v3] (.ref a :: st) A Q := c_lcl i_225_27 rfl rfl
theorem q_225_28 : XX d 225 28 [v0, v1, some (.int x), v3] st A Q ↔ XX d 225 29 [v0, v1, some (.int x), v3] (.int x :: st) A Q := c_lcl i_225_28 rfl rfl
theorem q_225_29 : XX (d + 1) 225 29 [v0, v1, v2, v3] [.int x1, .ref a0, .ref a2] (mk S I L R G) Q ↔ S a0 = some (.inr 12) ∧ XC d 222 [.ref a0, .int x1] (mk S I L R G) (XK (d + 1) 225 29 [v0, v1, v2, v3] [.ref a2] Q) := c_callV i_225_29 rfl rfl rfl rfl (Nat.le_of_ble_eq_true rfl) (Nat.le_of_ble_eq_true rfl) rfl
theorem q_225_32 : XX d 225 32 [v0, v1, v2, v3] (.int x :: st) A Q ↔ if x = w 0 then XX d 225 44 [v0, v1, v2, v3] st A Q else XX d 225 35 [v0, v1, v2, v3] st A Q := z_eq i_225_32 rfl rfl rfl
theorem q_225_35 : XX d 225 35 [v0, v1, v2, some (.int x)] st A Q ↔ XX d 225 36 [v0, v1, v2, some (.int x)] (.int x :: st) A Q := c_lcl i_225_35 rfl rfl
theorem q_225_36 : XX d 225 36 [v0, v1, v2, v3] st A Q ↔ XX d 225 37 [v0, v1, v2, v3] (.int (w 0) :: st) A Q := c_stk i_225_36 rfl
theorem q_225_37 : XX d 225 37 [v0, v1, v2, v3] st A Q ↔ XX d 225 38 [v0, v1, v2, v3] (.int (w 2) :: st) A Q := c_stk i_225_37 rfl
theorem q_225_38 : XX (d + 1) 225 38 [v0, v1, v2, v3] [.int x2, .int x1, .int x0, .ref a3] A Q ↔ XC d 155 [.int x0, .int x1, .int x2] A (XK (d + 1) 225 38 [v0, v1, v2, v3] [.ref a3] Q) := c_callS i_225_38 rfl rfl rfl rfl (Nat.le_of_ble_eq_true rfl) (Nat.le_of_ble_eq_true rfl)
theorem q_225_41 : XX d 225 41 [v0, v1, v2, v3] (.int x :: st) A Q ↔ if x = w 0 then XX d 225 44 [v0, v1, v2, v3] st A Q else XX d 225 48 [v0, v1, v2, v3] st A Q := z_ne i_225_41 rfl rfl rfl
theorem q_225_44 : XX d 225 44 [v0, v1, v2, v3] st A Q ↔ XX d 225 45 [v0, v1, v2, v3] (.int (w 1) :: st) A Q := c_stk i_225_44 rfl
theorem q_225_45 : XX d 225 45 [v0, v1, v2, v3] st A Q ↔ XX d 225 49 [v0, v1, v2, v3] st A Q := c_go i_225_45 rfl rfl
theorem q_225_48 : XX d 225 48 [v0, v1, v2, v3] st A Q ↔ XX d 225 49 [v0, v1, v2, v3] (.int (w 0) :: st) A Q := c_stk i_225_48 rfl
theorem q_225_49 : XX d 225 49 [v0, v1, v2, v3] st A Q ↔ XX d 225 50 [v0, v1, v2, v3] (.int (w 2) :: st) A Q := c_stk i_225_49 rfl
theorem q_225_50 : XX d 225 50 [v0, v1, v2, v3] st A Q ↔ XX d 225 51 [v0, v1, v2, v3] (.int (w 1) :: st) A Q := c_stk i_225_50 rfl
theorem q_225_51 : XX (d + 1) 225 51 [v0, v1, v2, v3] [.int x3, .int x2, .int x1, .ref a0] (mk S I L R G) Q ↔ S a0 = some (.inr 12) ∧ XC d 154 [.ref a0, .int x1, .int x2, .int x3] (mk S I L R G) (XK (d + 1) 225 51 [v0, v1, v2, v3] [] Q) := c_callV i_225_51 rfl rfl rfl rfl (Nat.le_of_ble_eq_true rfl) (Nat.le_of_ble_eq_true rfl) rfl
theorem q_225_54 : XX d 225 54 [v0, v1, v2, v3] (.int x :: st) A Q ↔ if x = w 0 then XX d 225 59 [v0, v1, v2, v3] st A Q else XX d 225 57 [v0, v1, v2, v3] st A Q := z_eq i_225_54 rfl rfl rfl
theorem q_225_57 : XX d 225 57 [v0, v1, v2, v3] st A Q ↔ XX d 225 58 [v0, v1, v2, v3] (.int (w 0) :: st) A Q := c_stk i_225_57 rfl
theorem q_225_58 : XX d 225 58 [v0, v1, v2, v3] [.int x] A Q ↔ Q (.inl (some (.int x))) A := e_retI i_225_58 rfl
theorem q_225_59 : XX d 225 59 [some (.ref a), v1, v2, v3] st A Q ↔ XX d 225 60 [some (.ref a), v1, v2, v3] (.ref a :: st) A Q := c_lcl i_225_59 rfl rfl
theorem q_225_60 : XX d 225 60 [v0, some (.int x), v2, v3] st A Q ↔ XX d 225 61 [v0, some (.int x), v2, v3] (.int x :: st) A Q := c_lcl i_225_60 rfl rfl
theorem q_225_61 : XX (d + 1) 225 61 [v0, v1, v2, v3] [.int x1, .ref a0] (mk S I L R G) Q ↔ S a0 = some (.inr 12) ∧ XC d 223 [.ref a0, .int x1] (mk S I L R G) (XK (d + 1) 225 61 [v0, v1, v2, v3] [] Q) := c_callV i_225_61 rfl rfl rfl rfl (Nat.le_of_ble_eq_true rfl) (Nat.le_of_ble_eq_true rfl) rfl
theorem q_225_64 : XX d 225 64 [v0, v1, v2, some (.int x)] st A Q ↔ XX d 225 65 [v0, v1, v2, some (.int x)] (.int x :: st) A Q := c_lcl i_225_64 rfl rfl
theorem q_225_65 : XX d 225 65 [v0, v1, v2, v3] (.int x :: st) A Q ↔ if x = w 0 then XX d 225 68 [v0, v1, v2, v3] st A Q else XX d 225 78 [v0, v1, v2, v3] st A Q := z_ne i_225_65 rfl rfl rfl
theorem q_225_68 : XX d 225 68 [some (.ref a), v1, v2, v3] st A Q ↔ XX d 225 69 [some (.ref a), v1, v2, v3] (.ref a :: st) A Q := c_lcl i_225_68 rfl rfl
theorem q_225_69 : XX d 225 69 [v0, v1, v2, v3] (.ref a :: st) (mk S I L R G) Q ↔ S a = some (.inr 12) ∧ XX d 225 72 [v0, v1, v2, v3] (.ref (a + 6672) :: st) (mk S I L R G) Q := r_gf i_225_69 rfl (by decide) rfl
theorem q_225_72 : XX d 225 72 [v0, v1, v2, v3] st A Q ↔ XX d 225 73 [v0, v1, v2, v3] (.int (w 0) :: st) A Q := c_stk i_225_72 rfl
theorem q_225_73 : XX d 225 73 [v0, v1, v2, v3] (.int x :: .ref a :: st) (mk S I L R G) Q ↔ inA (S a) ok_l x ∧ XX d 225 74 [v0, v1, v2, v3] (.long (L a (ix x)) :: st) (mk S I L R G) Q := r_la i_225_73
theorem q_225_74 : XX d 225 74 [v0, v1, v2, v3] (.long lx :: st) A Q ↔ XX d 225 75 [v0, v1, v2, v3] (.int lx.toInt32 :: st) A Q := c_stk i_225_74 rfl
theorem q_225_75 : XX d 225 75 [v0, v1, v2, v3] st A Q ↔ XX d 225 96 [v0, v1, v2, v3] st A Q := c_go i_225_75 rfl rfl
theorem q_225_78 : XX d 225 78 [v0, v1, v2, some (.int x)] st A Q ↔ XX d 225 79 [v0, v1, v2, some (.int x)] (.int x :: st) A Q := c_lcl i_225_78 rfl rfl
theorem q_225_79 : XX d 225 79 [v0, v1, v2, v3] st A Q ↔ XX d 225 80 [v0, v1, v2, v3] (.int (w 1) :: st) A Q := c_stk i_225_79 rfl
theorem q_225_80 : XX d 225 80 [v0, v1, v2, v3] (.int y :: .int x :: st) A Q ↔ if x = y then XX d 225 83 [v0, v1, v2, v3] st A Q else XX d 225 92 [v0, v1, v2, v3] st A Q := b_ne i_225_80 rfl rfl rfl
theorem q_225_83 : XX d 225 83 [some (.ref a), v1, v2, v3] st A Q ↔ XX d 225 84 [some (.ref a), v1, v2, v3] (.ref a :: st) A Q := c_lcl i_225_83 rfl rfl
theorem q_225_84 : XX d 225 84 [v0, v1, v2, v3] (.ref a :: st) (mk S I L R G) Q ↔ S a = some (.inr 12) ∧ XX d 225 87 [v0, v1, v2, v3] (.ref (a + 6670) :: st) (mk S I L R G) Q := r_gf i_225_84 rfl (by decide) rfl
theorem q_225_87 : XX d 225 87 [v0, v1, v2, v3] st A Q ↔ XX d 225 88 [v0, v1, v2, v3] (.int (w 0) :: st) A Q := c_stk i_225_87 rfl
theorem q_225_88 : XX d 225 88 [v0, v1, v2, v3] (.int x :: .ref a :: st) (mk S I L R G) Q ↔ inA (S a) ok_i x ∧ XX d 225 89 [v0, v1, v2, v3] (.int (I a (ix x)) :: st) (mk S I L R G) Q := r_ia i_225_88
theorem q_225_89 : XX d 225 89 [v0, v1, v2, v3] st A Q ↔ XX d 225 96 [v0, v1, v2, v3] st A Q := c_go i_225_89 rfl rfl
theorem q_225_92 : XX d 225 92 [some (.ref a), v1, v2, v3] st A Q ↔ XX d 225 93 [some (.ref a), v1, v2, v3] (.ref a :: st) A Q := c_lcl i_225_92 rfl rfl
theorem q_225_93 : XX (d + 1) 225 93 [v0, v1, v2, v3] [.ref a0] (mk S I L R G) Q ↔ S a0 = some (.inr 12) ∧ XC d 224 [.ref a0] (mk S I L R G) (XK (d + 1) 225 93 [v0, v1, v2, v3] [] Q) := c_callV i_225_93 rfl rfl rfl rfl (Nat.le_of_ble_eq_true rfl) (Nat.le_of_ble_eq_true rfl) rfl
theorem q_225_96 : XX d 225 96 [v0, v1, v2, v3] [.int x] A Q ↔ Q (.inl (some (.int x))) A := e_retI i_225_96 rfl
theorem q_225_e : XC d 225 [.ref a0, .int x1, .int x2, .int x3] A Q ↔ XX d 225 0 [some (.ref a0), some (.int x1), some (.int x2), some (.int x3)] [] A Q := Iff.rfl
theorem i_226_0 : t_ins 226 0 = some (.aload_n 0) := by decide +kernel
theorem i_226_1 : t_ins 226 1 = some (.iconst 0) := by decide +kernel
theorem i_226_2 : t_ins 226 2 = some (.putfield 121) := by decide +kernel
theorem i_226_5 : t_ins 226 5 = some (.aload_n 0) := by decide +kernel
theorem i_226_6 : t_ins 226 6 = some (.iload_n 1) := by decide +kernel
theorem i_226_7 : t_ins 226 7 = some (.invokestatic 245) := by decide +kernel
theorem i_226_10 : t_ins 226 10 = some (.ifCond .ne 7) := by decide +kernel
theorem i_226_13 : t_ins 226 13 = some (.iconst 1) := by decide +kernel
theorem i_226_14 : t_ins 226 14 = some (.goto 4) := by decide +kernel
theorem i_226_17 : t_ins 226 17 = some (.iconst 0) := by decide +kernel
theorem i_226_18 : t_ins 226 18 = some (.iconst 1) := by decide +kernel
theorem i_226_19 : t_ins 226 19 = some (.iconst 0) := by decide +kernel
theorem i_226_20 : t_ins 226 20 = some (.invokevirtual 234) := by decide +kernel
theorem i_226_23 : t_ins 226 23 = some (.ifCond .ne 25) := by decide +kernel
theorem i_226_26 : t_ins 226 26 = some (.aload_n 0) := by decide +kernel
theorem i_226_27 : t_ins 226 27 = some (.aload_n 0) := by decide +kernel
theorem i_226_28 : t_ins 226 28 = some (.iload_n 2) := by decide +kernel
theorem i_226_29 : t_ins 226 29 = some (.invokevirtual 364) := by decide +kernel
theorem i_226_32 : t_ins 226 32 = some (.ifCond .ne 7) := by decide +kernel
theorem i_226_35 : t_ins 226 35 = some (.iconst 1) := by decide +kernel
theorem i_226_36 : t_ins 226 36 = some (.goto 4) := by decide +kernel
theorem i_226_39 : t_ins 226 39 = some (.iconst 0) := by decide +kernel
theorem i_226_40 : t_ins 226 40 = some (.iconst 2) := by decide +kernel
theorem i_226_41 : t_ins 226 41 = some (.iconst 1) := by decide +kernel
theorem i_226_42 : t_ins 226 42 = some (.invokevirtual 234) := by decide +kernel
theorem i_226_45 : t_ins 226 45 = some (.ifCond .eq 5) := by decide +kernel
theorem i_226_48 : t_ins 226 48 = some (.iconst 0) := by decide +kernel
theorem i_226_49 : t_ins 226 49 = some (.ireturn) := by decide +kernel
theorem i_226_50 : t_ins 226 50 = some (.aload_n 0) := by decide +kernel
theorem i_226_51 : t_ins 226 51 = some (.iload_n 1) := by decide +kernel
theorem i_226_52 : t_ins 226 52 = some (.invokevirtual 367) := by decide +kernel
theorem i_226_55 : t_ins 226 55 = some (.aload_n 0) := by decide +kernel
theorem i_226_56 : t_ins 226 56 = some (.iload_n 3) := by decide +kernel
theorem i_226_57 : t_ins 226 57 = some (.iconst 0) := by decide +kernel
theorem i_226_58 : t_ins 226 58 = some (.aload_n 0) := by decide +kernel
theorem i_226_59 : t_ins 226 59 = some (.getfield 94) := by decide +kernel
theorem i_226_62 : t_ins 226 62 = some (.iconst 0) := by decide +kernel
theorem i_226_63 : t_ins 226 63 = some (.iaload) := by decide +kernel
theorem i_226_64 : t_ins 226 64 = some (.iconst 1) := by decide +kernel
theorem i_226_65 : t_ins 226 65 = some (.isub) := by decide +kernel
theorem i_226_66 : t_ins 226 66 = some (.invokestatic 230) := by decide +kernel
theorem i_226_69 : t_ins 226 69 = some (.ifCond .ne 7) := by decide +kernel
theorem i_226_72 : t_ins 226 72 = some (.iconst 1) := by decide +kernel
theorem i_226_73 : t_ins 226 73 = some (.goto 4) := by decide +kernel
theorem i_226_76 : t_ins 226 76 = some (.iconst 0) := by decide +kernel
theorem i_226_77 : t_ins 226 77 = some (.iconst 1) := by decide +kernel
theorem i_226_78 : t_ins 226 78 = some (.iconst 0) := by decide +kernel
theorem i_226_79 : t_ins 226 79 = some (.invokevirtual 234) := by decide +kernel
theorem i_226_82 : t_ins 226 82 = some (.ifCond .ne 27) := by decide +kernel
theorem i_226_85 : t_ins 226 85 = some (.aload_n 0) := by decide +kernel
theorem i_226_86 : t_ins 226 86 = some (.iload 4) := by decide +kernel
theorem i_226_88 : t_ins 226 88 = some (.iconst 0) := by decide +kernel
theorem i_226_89 : t_ins 226 89 = some (.iconst 1) := by decide +kernel
theorem i_226_90 : t_ins 226 90 = some (.invokestatic 230) := by decide +kernel
theorem i_226_93 : t_ins 226 93 = some (.ifCond .ne 7) := by decide +kernel
theorem i_226_96 : t_ins 226 96 = some (.iconst 1) := by decide +kernel
theorem i_226_97 : t_ins 226 97 = some (.goto 4) := by decide +kernel
theorem i_226_100 : t_ins 226 100 = some (.iconst 0) := by decide +kernel
theorem i_226_101 : t_ins 226 101 = some (.iconst 2) := by decide +kernel
theorem i_226_102 : t_ins 226 102 = some (.iconst 1) := by decide +kernel
theorem i_226_103 : t_ins 226 103 = some (.invokevirtual 234) := by decide +kernel
theorem i_226_106 : t_ins 226 106 = some (.ifCond .eq 5) := by decide +kernel
theorem i_226_109 : t_ins 226 109 = some (.iconst 0) := by decide +kernel
theorem i_226_110 : t_ins 226 110 = some (.ireturn) := by decide +kernel
theorem i_226_111 : t_ins 226 111 = some (.iconst 0) := by decide +kernel
theorem i_226_112 : t_ins 226 112 = some (.istore 5) := by decide +kernel
theorem i_226_114 : t_ins 226 114 = some (.iconst 0) := by decide +kernel
theorem i_226_115 : t_ins 226 115 = some (.istore 6) := by decide +kernel
theorem i_226_117 : t_ins 226 117 = some (.iload 6) := by decide +kernel
theorem i_226_119 : t_ins 226 119 = some (.iload_n 3) := by decide +kernel
theorem i_226_120 : t_ins 226 120 = some (.if_icmp .ge 18) := by decide +kernel
theorem i_226_123 : t_ins 226 123 = some (.aload_n 0) := by decide +kernel
theorem i_226_124 : t_ins 226 124 = some (.getfield 97) := by decide +kernel
theorem i_226_127 : t_ins 226 127 = some (.iload 5) := by decide +kernel
theorem i_226_129 : t_ins 226 129 = some (.iaload) := by decide +kernel
theorem i_226_130 : t_ins 226 130 = some (.istore 5) := by decide +kernel
theorem i_226_132 : t_ins 226 132 = some (.iinc 6 1) := by decide +kernel
theorem i_226_135 : t_ins 226 135 = some (.goto (-18)) := by decide +kernel
theorem i_226_138 : t_ins 226 138 = some (.iload 4) := by decide +kernel
theorem i_226_140 : t_ins 226 140 = some (.ifCond .ne 21) := by decide +kernel
theorem i_226_143 : t_ins 226 143 = some (.aload_n 0) := by decide +kernel
theorem i_226_144 : t_ins 226 144 = some (.getfield 91) := by decide +kernel
theorem i_226_147 : t_ins 226 147 = some (.iload 5) := by decide +kernel
theorem i_226_149 : t_ins 226 149 = some (.aaload) := by decide +kernel
theorem i_226_150 : t_ins 226 150 = some (.aload_n 0) := by decide +kernel
theorem i_226_151 : t_ins 226 151 = some (.getfield 97) := by decide +kernel
theorem i_226_154 : t_ins 226 154 = some (.iload 5) := by decide +kernel
theorem i_226_156 : t_ins 226 156 = some (.iaload) := by decide +kernel
theorem i_226_157 : t_ins 226 157 = some (.iaload) := by decide +kernel
theorem i_226_158 : t_ins 226 158 = some (.goto 13) := by decide +kernel
theorem i_226_161 : t_ins 226 161 = some (.aload_n 0) := by decide +kernel
theorem i_226_162 : t_ins 226 162 = some (.getfield 97) := by decide +kernel
theorem i_226_165 : t_ins 226 165 = some (.iload 5) := by decide +kernel
theorem i_226_167 : t_ins 226 167 = some (.iaload) := by decide +kernel
theorem i_226_168 : t_ins 226 168 = some (.iload 5) := by decide +kernel
theorem i_226_170 : t_ins 226 170 = some (.isub) := by decide +kernel
theorem i_226_171 : t_ins 226 171 = some (.ireturn) := by decide +kernel
theorem q_226_0 : XX d 226 0 [some (.ref a), v1, v2, v3, v4, v5, v6] st A Q ↔ XX d 226 1 [some (.ref a), v1, v2, v3, v4, v5, v6] (.ref a :: st) A Q := c_lcl i_226_0 rfl rfl
theorem q_226_1 : XX d 226 1 [v0, v1, v2, v3, v4, v5, v6] st A Q ↔ XX d 226 2 [v0, v1, v2, v3, v4, v5, v6] (.int (w 0) :: st) A Q := c_stk i_226_1 rfl
theorem q_226_2 : XX d 226 2 [v0, v1, v2, v3, v4, v5, v6] (.int x :: .ref a :: st) (mk S I L R G) Q ↔ S a = some (.inr 12) ∧ XX d 226 5 [v0, v1, v2, v3, v4, v5, v6] st (mk S (wr I a (up (I a) 0 x)) L R G) Q := r_pf i_226_2 rfl (by decide) rfl rfl rfl
theorem q_226_5 : XX d 226 5 [some (.ref a), v1, v2, v3, v4, v5, v6] st A Q ↔ XX d 226 6 [some (.ref a), v1, v2, v3, v4, v5, v6] (.ref a :: st) A Q := c_lcl i_226_5 rfl rfl
theorem q_226_6 : XX d 226 6 [v0, some (.int x), v2, v3, v4, v5, v6] st A Q ↔ XX d 226 7 [v0, some (.int x), v2, v3, v4, v5, v6] (.int x :: st) A Q := c_lcl i_226_6 rfl rfl
theorem q_226_7 : XX (d + 1) 226 7 [v0, v1, v2, v3, v4, v5, v6] [.int x0, .ref a1] A Q ↔ XC d 182 [.int x0] A (XK (d + 1) 226 7 [v0, v1, v2, v3, v4, v5, v6] [.ref a1] Q) := c_callS i_226_7 rfl rfl rfl rfl (Nat.le_of_ble_eq_true rfl) (Nat.le_of_ble_eq_true rfl)
theorem q_226_10 : XX d 226 10 [v0, v1, v2, v3, v4, v5, v6] (.int x :: st) A Q ↔ if x = w 0 then XX d 226 13 [v0, v1, v2, v3, v4, v5, v6] st A Q else XX d 226 17 [v0, v1, v2, v3, v4, v5, v6] st A Q := z_ne i_226_10 rfl rfl rfl
theorem q_226_13 : XX d 226 13 [v0, v1, v2, v3, v4, v5, v6] st A Q ↔ XX d 226 14 [v0, v1, v2, v3, v4, v5, v6] (.int (w 1) :: st) A Q := c_stk i_226_13 rfl
theorem q_226_14 : XX d 226 14 [v0, v1, v2, v3, v4, v5, v6] st A Q ↔ XX d 226 18 [v0, v1, v2, v3, v4, v5, v6] st A Q := c_go i_226_14 rfl rfl
theorem q_226_17 : XX d 226 17 [v0, v1, v2, v3, v4, v5, v6] st A Q ↔ XX d 226 18 [v0, v1, v2, v3, v4, v5, v6] (.int (w 0) :: st) A Q := c_stk i_226_17 rfl
theorem q_226_18 : XX d 226 18 [v0, v1, v2, v3, v4, v5, v6] st A Q ↔ XX d 226 19 [v0, v1, v2, v3, v4, v5, v6] (.int (w 1) :: st) A Q := c_stk i_226_18 rfl
theorem q_226_19 : XX d 226 19 [v0, v1, v2, v3, v4, v5, v6] st A Q ↔ XX d 226 20 [v0, v1, v2, v3, v4, v5, v6] (.int (w 0) :: st) A Q := c_stk i_226_19 rfl
theorem q_226_20 : XX (d + 1) 226 20 [v0, v1, v2, v3, v4, v5, v6] [.int x3, .int x2, .int x1, .ref a0] (mk S I L R G) Q ↔ S a0 = some (.inr 12) ∧ XC d 154 [.ref a0, .int x1, .int x2, .int x3] (mk S I L R G) (XK (d + 1) 226 20 [v0, v1, v2, v3, v4, v5, v6] [] Q) := c_callV i_226_20 rfl rfl rfl rfl (Nat.le_of_ble_eq_true rfl) (Nat.le_of_ble_eq_true rfl) rfl
theorem q_226_23 : XX d 226 23 [v0, v1, v2, v3, v4, v5, v6] (.int x :: st) A Q ↔ if x = w 0 then XX d 226 26 [v0, v1, v2, v3, v4, v5, v6] st A Q else XX d 226 48 [v0, v1, v2, v3, v4, v5, v6] st A Q := z_ne i_226_23 rfl rfl rfl
theorem q_226_26 : XX d 226 26 [some (.ref a), v1, v2, v3, v4, v5, v6] st A Q ↔ XX d 226 27 [some (.ref a), v1, v2, v3, v4, v5, v6] (.ref a :: st) A Q := c_lcl i_226_26 rfl rfl
theorem q_226_27 : XX d 226 27 [some (.ref a), v1, v2, v3, v4, v5, v6] st A Q ↔ XX d 226 28 [some (.ref a), v1, v2, v3, v4, v5, v6] (.ref a :: st) A Q := c_lcl i_226_27 rfl rfl
theorem q_226_28 : XX d 226 28 [v0, v1, some (.int x), v3, v4, v5, v6] st A Q ↔ XX d 226 29 [v0, v1, some (.int x), v3, v4, v5, v6] (.int x :: st) A Q := c_lcl i_226_28 rfl rfl
theorem q_226_29 : XX (d + 1) 226 29 [v0, v1, v2, v3, v4, v5, v6] [.int x1, .ref a0, .ref a2] (mk S I L R G) Q ↔ S a0 = some (.inr 12) ∧ XC d 222 [.ref a0, .int x1] (mk S I L R G) (XK (d + 1) 226 29 [v0, v1, v2, v3, v4, v5, v6] [.ref a2] Q) := c_callV i_226_29 rfl rfl rfl rfl (Nat.le_of_ble_eq_true rfl) (Nat.le_of_ble_eq_true rfl) rfl
theorem q_226_32 : XX d 226 32 [v0, v1, v2, v3, v4, v5, v6] (.int x :: st) A Q ↔ if x = w 0 then XX d 226 35 [v0, v1, v2, v3, v4, v5, v6] st A Q else XX d 226 39 [v0, v1, v2, v3, v4, v5, v6] st A Q := z_ne i_226_32 rfl rfl rfl
theorem q_226_35 : XX d 226 35 [v0, v1, v2, v3, v4, v5, v6] st A Q ↔ XX d 226 36 [v0, v1, v2, v3, v4, v5, v6] (.int (w 1) :: st) A Q := c_stk i_226_35 rfl
theorem q_226_36 : XX d 226 36 [v0, v1, v2, v3, v4, v5, v6] st A Q ↔ XX d 226 40 [v0, v1, v2, v3, v4, v5, v6] st A Q := c_go i_226_36 rfl rfl
theorem q_226_39 : XX d 226 39 [v0, v1, v2, v3, v4, v5, v6] st A Q ↔ XX d 226 40 [v0, v1, v2, v3, v4, v5, v6] (.int (w 0) :: st) A Q := c_stk i_226_39 rfl
theorem q_226_40 : XX d 226 40 [v0, v1, v2, v3, v4, v5, v6] st A Q ↔ XX d 226 41 [v0, v1, v2, v3, v4, v5, v6] (.int (w 2) :: st) A Q := c_stk i_226_40 rfl
theorem q_226_41 : XX d 226 41 [v0, v1, v2, v3, v4, v5, v6] st A Q ↔ XX d 226 42 [v0, v1, v2, v3, v4, v5, v6] (.int (w 1) :: st) A Q := c_stk i_226_41 rfl
theorem q_226_42 : XX (d + 1) 226 42 [v0, v1, v2, v3, v4, v5, v6] [.int x3, .int x2, .int x1, .ref a0] (mk S I L R G) Q ↔ S a0 = some (.inr 12) ∧ XC d 154 [.ref a0, .int x1, .int x2, .int x3] (mk S I L R G) (XK (d + 1) 226 42 [v0, v1, v2, v3, v4, v5, v6] [] Q) := c_callV i_226_42 rfl rfl rfl rfl (Nat.le_of_ble_eq_true rfl) (Nat.le_of_ble_eq_true rfl) rfl
theorem q_226_45 : XX d 226 45 [v0, v1, v2, v3, v4, v5, v6] (.int x :: st) A Q ↔ if x = w 0 then XX d 226 50 [v0, v1, v2, v3, v4, v5, v6] st A Q else XX d 226 48 [v0, v1, v2, v3, v4, v5, v6] st A Q := z_eq i_226_45 rfl rfl rfl
theorem q_226_48 : XX d 226 48 [v0, v1, v2, v3, v4, v5, v6] st A Q ↔ XX d 226 49 [v0, v1, v2, v3, v4, v5, v6] (.int (w 0) :: st) A Q := c_stk i_226_48 rfl
theorem q_226_49 : XX d 226 49 [v0, v1, v2, v3, v4, v5, v6] [.int x] A Q ↔ Q (.inl (some (.int x))) A := e_retI i_226_49 rfl
theorem q_226_50 : XX d 226 50 [some (.ref a), v1, v2, v3, v4, v5, v6] st A Q ↔ XX d 226 51 [some (.ref a), v1, v2, v3, v4, v5, v6] (.ref a :: st) A Q := c_lcl i_226_50 rfl rfl
theorem q_226_51 : XX d 226 51 [v0, some (.int x), v2, v3, v4, v5, v6] st A Q ↔ XX d 226 52 [v0, some (.int x), v2, v3, v4, v5, v6] (.int x :: st) A Q := c_lcl i_226_51 rfl rfl
theorem q_226_52 : XX (d + 1) 226 52 [v0, v1, v2, v3, v4, v5, v6] [.int x1, .ref a0] (mk S I L R G) Q ↔ S a0 = some (.inr 12) ∧ XC d 223 [.ref a0, .int x1] (mk S I L R G) (XK (d + 1) 226 52 [v0, v1, v2, v3, v4, v5, v6] [] Q) := c_callV i_226_52 rfl rfl rfl rfl (Nat.le_of_ble_eq_true rfl) (Nat.le_of_ble_eq_true rfl) rfl
theorem q_226_55 : XX d 226 55 [some (.ref a), v1, v2, v3, v4, v5, v6] st A Q ↔ XX d 226 56 [some (.ref a), v1, v2, v3, v4, v5, v6] (.ref a :: st) A Q := c_lcl i_226_55 rfl rfl
theorem q_226_56 : XX d 226 56 [v0, v1, v2, some (.int x), v4, v5, v6] st A Q ↔ XX d 226 57 [v0, v1, v2, some (.int x), v4, v5, v6] (.int x :: st) A Q := c_lcl i_226_56 rfl rfl
theorem q_226_57 : XX d 226 57 [v0, v1, v2, v3, v4, v5, v6] st A Q ↔ XX d 226 58 [v0, v1, v2, v3, v4, v5, v6] (.int (w 0) :: st) A Q := c_stk i_226_57 rfl
theorem q_226_58 : XX d 226 58 [some (.ref a), v1, v2, v3, v4, v5, v6] st A Q ↔ XX d 226 59 [some (.ref a), v1, v2, v3, v4, v5, v6] (.ref a :: st) A Q := c_lcl i_226_58 rfl rfl
theorem q_226_59 : XX d 226 59 [v0, v1, v2, v3, v4, v5, v6] (.ref a :: st) (mk S I L R G) Q ↔ S a = some (.inr 12) ∧ XX d 226 62 [v0, v1, v2, v3, v4, v5, v6] (.ref (a + 6670) :: st) (mk S I L R G) Q := r_gf i_226_59 rfl (by decide) rfl
theorem q_226_62 : XX d 226 62 [v0, v1, v2, v3, v4, v5, v6] st A Q ↔ XX d 226 63 [v0, v1, v2, v3, v4, v5, v6] (.int (w 0) :: st) A Q := c_stk i_226_62 rfl
theorem q_226_63 : XX d 226 63 [v0, v1, v2, v3, v4, v5, v6] (.int x :: .ref a :: st) (mk S I L R G) Q ↔ inA (S a) ok_i x ∧ XX d 226 64 [v0, v1, v2, v3, v4, v5, v6] (.int (I a (ix x)) :: st) (mk S I L R G) Q := r_ia i_226_63
theorem q_226_64 : XX d 226 64 [v0, v1, v2, v3, v4, v5, v6] st A Q ↔ XX d 226 65 [v0, v1, v2, v3, v4, v5, v6] (.int (w 1) :: st) A Q := c_stk i_226_64 rfl
theorem q_226_65 : XX d 226 65 [v0, v1, v2, v3, v4, v5, v6] (.int y :: .int x :: st) A Q ↔ XX d 226 66 [v0, v1, v2, v3, v4, v5, v6] (.int (x - y) :: st) A Q := c_stk i_226_65 rfl
theorem q_226_66 : XX (d + 1) 226 66 [v0, v1, v2, v3, v4, v5, v6] [.int x2, .int x1, .int x0, .ref a3] A Q ↔ XC d 155 [.int x0, .int x1, .int x2] A (XK (d + 1) 226 66 [v0, v1, v2, v3, v4, v5, v6] [.ref a3] Q) := c_callS i_226_66 rfl rfl rfl rfl (Nat.le_of_ble_eq_true rfl) (Nat.le_of_ble_eq_true rfl)
theorem q_226_69 : XX d 226 69 [v0, v1, v2, v3, v4, v5, v6] (.int x :: st) A Q ↔ if x = w 0 then XX d 226 72 [v0, v1, v2, v3, v4, v5, v6] st A Q else XX d 226 76 [v0, v1, v2, v3, v4, v5, v6] st A Q := z_ne i_226_69 rfl rfl rfl
theorem q_226_72 : XX d 226 72 [v0, v1, v2, v3, v4, v5, v6] st A Q ↔ XX d 226 73 [v0, v1, v2, v3, v4, v5, v6] (.int (w 1) :: st) A Q := c_stk i_226_72 rfl
theorem q_226_73 : XX d 226 73 [v0, v1, v2, v3, v4, v5, v6] st A Q ↔ XX d 226 77 [v0, v1, v2, v3, v4, v5, v6] st A Q := c_go i_226_73 rfl rfl
theorem q_226_76 : XX d 226 76 [v0, v1, v2, v3, v4, v5, v6] st A Q ↔ XX d 226 77 [v0, v1, v2, v3, v4, v5, v6] (.int (w 0) :: st) A Q := c_stk i_226_76 rfl
theorem q_226_77 : XX d 226 77 [v0, v1, v2, v3, v4, v5, v6] st A Q ↔ XX d 226 78 [v0, v1, v2, v3, v4, v5, v6] (.int (w 1) :: st) A Q := c_stk i_226_77 rfl
theorem q_226_78 : XX d 226 78 [v0, v1, v2, v3, v4, v5, v6] st A Q ↔ XX d 226 79 [v0, v1, v2, v3, v4, v5, v6] (.int (w 0) :: st) A Q := c_stk i_226_78 rfl
theorem q_226_79 : XX (d + 1) 226 79 [v0, v1, v2, v3, v4, v5, v6] [.int x3, .int x2, .int x1, .ref a0] (mk S I L R G) Q ↔ S a0 = some (.inr 12) ∧ XC d 154 [.ref a0, .int x1, .int x2, .int x3] (mk S I L R G) (XK (d + 1) 226 79 [v0, v1, v2, v3, v4, v5, v6] [] Q) := c_callV i_226_79 rfl rfl rfl rfl (Nat.le_of_ble_eq_true rfl) (Nat.le_of_ble_eq_true rfl) rfl
theorem q_226_82 : XX d 226 82 [v0, v1, v2, v3, v4, v5, v6] (.int x :: st) A Q ↔ if x = w 0 then XX d 226 85 [v0, v1, v2, v3, v4, v5, v6] st A Q else XX d 226 109 [v0, v1, v2, v3, v4, v5, v6] st A Q := z_ne i_226_82 rfl rfl rfl
theorem q_226_85 : XX d 226 85 [some (.ref a), v1, v2, v3, v4, v5, v6] st A Q ↔ XX d 226 86 [some (.ref a), v1, v2, v3, v4, v5, v6] (.ref a :: st) A Q := c_lcl i_226_85 rfl rfl
theorem q_226_86 : XX d 226 86 [v0, v1, v2, v3, some (.int x), v5, v6] st A Q ↔ XX d 226 88 [v0, v1, v2, v3, some (.int x), v5, v6] (.int x :: st) A Q := c_lcl i_226_86 rfl rfl
theorem q_226_88 : XX d 226 88 [v0, v1, v2, v3, v4, v5, v6] st A Q ↔ XX d 226 89 [v0, v1, v2, v3, v4, v5, v6] (.int (w 0) :: st) A Q := c_stk i_226_88 rfl
theorem q_226_89 : XX d 226 89 [v0, v1, v2, v3, v4, v5, v6] st A Q ↔ XX d 226 90 [v0, v1, v2, v3, v4, v5, v6] (.int (w 1) :: st) A Q := c_stk i_226_89 rfl
theorem q_226_90 : XX (d + 1) 226 90 [v0, v1, v2, v3, v4, v5, v6] [.int x2, .int x1, .int x0, .ref a3] A Q ↔ XC d 155 [.int x0, .int x1, .int x2] A (XK (d + 1) 226 90 [v0, v1, v2, v3, v4, v5, v6] [.ref a3] Q) := c_callS i_226_90 rfl rfl rfl rfl (Nat.le_of_ble_eq_true rfl) (Nat.le_of_ble_eq_true rfl)
theorem q_226_93 : XX d 226 93 [v0, v1, v2, v3, v4, v5, v6] (.int x :: st) A Q ↔ if x = w 0 then XX d 226 96 [v0, v1, v2, v3, v4, v5, v6] st A Q else XX d 226 100 [v0, v1, v2, v3, v4, v5, v6] st A Q := z_ne i_226_93 rfl rfl rfl
theorem q_226_96 : XX d 226 96 [v0, v1, v2, v3, v4, v5, v6] st A Q ↔ XX d 226 97 [v0, v1, v2, v3, v4, v5, v6] (.int (w 1) :: st) A Q := c_stk i_226_96 rfl
theorem q_226_97 : XX d 226 97 [v0, v1, v2, v3, v4, v5, v6] st A Q ↔ XX d 226 101 [v0, v1, v2, v3, v4, v5, v6] st A Q := c_go i_226_97 rfl rfl
theorem q_226_100 : XX d 226 100 [v0, v1, v2, v3, v4, v5, v6] st A Q ↔ XX d 226 101 [v0, v1, v2, v3, v4, v5, v6] (.int (w 0) :: st) A Q := c_stk i_226_100 rfl
theorem q_226_101 : XX d 226 101 [v0, v1, v2, v3, v4, v5, v6] st A Q ↔ XX d 226 102 [v0, v1, v2, v3, v4, v5, v6] (.int (w 2) :: st) A Q := c_stk i_226_101 rfl
theorem q_226_102 : XX d 226 102 [v0, v1, v2, v3, v4, v5, v6] st A Q ↔ XX d 226 103 [v0, v1, v2, v3, v4, v5, v6] (.int (w 1) :: st) A Q := c_stk i_226_102 rfl
theorem q_226_103 : XX (d + 1) 226 103 [v0, v1, v2, v3, v4, v5, v6] [.int x3, .int x2, .int x1, .ref a0] (mk S I L R G) Q ↔ S a0 = some (.inr 12) ∧ XC d 154 [.ref a0, .int x1, .int x2, .int x3] (mk S I L R G) (XK (d + 1) 226 103 [v0, v1, v2, v3, v4, v5, v6] [] Q) := c_callV i_226_103 rfl rfl rfl rfl (Nat.le_of_ble_eq_true rfl) (Nat.le_of_ble_eq_true rfl) rfl
theorem q_226_106 : XX d 226 106 [v0, v1, v2, v3, v4, v5, v6] (.int x :: st) A Q ↔ if x = w 0 then XX d 226 111 [v0, v1, v2, v3, v4, v5, v6] st A Q else XX d 226 109 [v0, v1, v2, v3, v4, v5, v6] st A Q := z_eq i_226_106 rfl rfl rfl
theorem q_226_109 : XX d 226 109 [v0, v1, v2, v3, v4, v5, v6] st A Q ↔ XX d 226 110 [v0, v1, v2, v3, v4, v5, v6] (.int (w 0) :: st) A Q := c_stk i_226_109 rfl
theorem q_226_110 : XX d 226 110 [v0, v1, v2, v3, v4, v5, v6] [.int x] A Q ↔ Q (.inl (some (.int x))) A := e_retI i_226_110 rfl
theorem q_226_111 : XX d 226 111 [v0, v1, v2, v3, v4, v5, v6] st A Q ↔ XX d 226 112 [v0, v1, v2, v3, v4, v5, v6] (.int (w 0) :: st) A Q := c_stk i_226_111 rfl
theorem q_226_112 : XX d 226 112 [v0, v1, v2, v3, some (.int z), v5, v6] (.int x :: st) A Q ↔ XX d 226 114 [v0, v1, v2, v3, some (.int z), some (.int x), v6] st A Q := c_lcl i_226_112 rfl rfl
theorem q_226_114 : XX d 226 114 [v0, v1, v2, v3, v4, v5, v6] st A Q ↔ XX d 226 115 [v0, v1, v2, v3, v4, v5, v6] (.int (w 0) :: st) A Q := c_stk i_226_114 rfl
theorem q_226_115 : XX d 226 115 [v0, v1, v2, v3, v4, some (.int z), v6] (.int x :: st) A Q ↔ XX d 226 117 [v0, v1, v2, v3, v4, some (.int z), some (.int x)] st A Q := c_lcl i_226_115 rfl rfl
theorem q_226_117 : XX d 226 117 [v0, v1, v2, v3, v4, v5, some (.int x)] st A Q ↔ XX d 226 119 [v0, v1, v2, v3, v4, v5, some (.int x)] (.int x :: st) A Q := c_lcl i_226_117 rfl rfl
theorem q_226_119 : XX d 226 119 [v0, v1, v2, some (.int x), v4, v5, v6] st A Q ↔ XX d 226 120 [v0, v1, v2, some (.int x), v4, v5, v6] (.int x :: st) A Q := c_lcl i_226_119 rfl rfl
theorem q_226_120 : XX d 226 120 [v0, v1, v2, v3, v4, v5, v6] (.int y :: .int x :: st) A Q ↔ if x < y then XX d 226 123 [v0, v1, v2, v3, v4, v5, v6] st A Q else XX d 226 138 [v0, v1, v2, v3, v4, v5, v6] st A Q := b_ge i_226_120 rfl rfl rfl
theorem q_226_123 : XX d 226 123 [some (.ref a), v1, v2, v3, v4, v5, v6] st A Q ↔ XX d 226 124 [some (.ref a), v1, v2, v3, v4, v5, v6] (.ref a :: st) A Q := c_lcl i_226_123 rfl rfl
theorem q_226_124 : XX d 226 124 [v0, v1, v2, v3, v4, v5, v6] (.ref a :: st) (mk S I L R G) Q ↔ S a = some (.inr 12) ∧ XX d 226 127 [v0, v1, v2, v3, v4, v5, v6] (.ref (a + 6671) :: st) (mk S I L R G) Q := r_gf i_226_124 rfl (by decide) rfl
theorem q_226_127 : XX d 226 127 [v0, v1, v2, v3, v4, some (.int x), v6] st A Q ↔ XX d 226 129 [v0, v1, v2, v3, v4, some (.int x), v6] (.int x :: st) A Q := c_lcl i_226_127 rfl rfl
theorem q_226_129 : XX d 226 129 [v0, v1, v2, v3, v4, v5, v6] (.int x :: .ref a :: st) (mk S I L R G) Q ↔ inA (S a) ok_i x ∧ XX d 226 130 [v0, v1, v2, v3, v4, v5, v6] (.int (I a (ix x)) :: st) (mk S I L R G) Q := r_ia i_226_129
theorem q_226_130 : XX d 226 130 [v0, v1, v2, v3, some (.int z), v5, v6] (.int x :: st) A Q ↔ XX d 226 132 [v0, v1, v2, v3, some (.int z), some (.int x), v6] st A Q := c_lcl i_226_130 rfl rfl
theorem q_226_132 : XX d 226 132 [v0, v1, v2, v3, v4, some (.int z), some (.int x)] st A Q ↔ XX d 226 135 [v0, v1, v2, v3, v4, some (.int z), some (.int (x + w 1))] st A Q := c_lcl i_226_132 rfl rfl
theorem q_226_135 : XX d 226 135 [v0, v1, v2, v3, v4, v5, v6] st A Q ↔ XX d 226 117 [v0, v1, v2, v3, v4, v5, v6] st A Q := c_go i_226_135 rfl rfl
theorem q_226_138 : XX d 226 138 [v0, v1, v2, v3, some (.int x), v5, v6] st A Q ↔ XX d 226 140 [v0, v1, v2, v3, some (.int x), v5, v6] (.int x :: st) A Q := c_lcl i_226_138 rfl rfl
theorem q_226_140 : XX d 226 140 [v0, v1, v2, v3, v4, v5, v6] (.int x :: st) A Q ↔ if x = w 0 then XX d 226 143 [v0, v1, v2, v3, v4, v5, v6] st A Q else XX d 226 161 [v0, v1, v2, v3, v4, v5, v6] st A Q := z_ne i_226_140 rfl rfl rfl
theorem q_226_143 : XX d 226 143 [some (.ref a), v1, v2, v3, v4, v5, v6] st A Q ↔ XX d 226 144 [some (.ref a), v1, v2, v3, v4, v5, v6] (.ref a :: st) A Q := c_lcl i_226_143 rfl rfl
theorem q_226_144 : XX d 226 144 [v0, v1, v2, v3, v4, v5, v6] (.ref a :: st) (mk S I L R G) Q ↔ S a = some (.inr 12) ∧ XX d 226 147 [v0, v1, v2, v3, v4, v5, v6] (.ref (a + 6629) :: st) (mk S I L R G) Q := r_gf i_226_144 rfl (by decide) rfl
theorem q_226_147 : XX d 226 147 [v0, v1, v2, v3, v4, some (.int x), v6] st A Q ↔ XX d 226 149 [v0, v1, v2, v3, v4, some (.int x), v6] (.int x :: st) A Q := c_lcl i_226_147 rfl rfl
theorem q_226_149 : XX d 226 149 [v0, v1, v2, v3, v4, v5, v6] (.int x :: .ref a :: st) (mk S I L R G) Q ↔ inA (S a) ok_q x ∧ XX d 226 150 [v0, v1, v2, v3, v4, v5, v6] (va_rf (R a (ix x)) :: st) (mk S I L R G) Q := r_aq i_226_149
theorem q_226_150 : XX d 226 150 [some (.ref a), v1, v2, v3, v4, v5, v6] st A Q ↔ XX d 226 151 [some (.ref a), v1, v2, v3, v4, v5, v6] (.ref a :: st) A Q := c_lcl i_226_150 rfl rfl
theorem q_226_151 : XX d 226 151 [v0, v1, v2, v3, v4, v5, v6] (.ref a :: st) (mk S I L R G) Q ↔ S a = some (.inr 12) ∧ XX d 226 154 [v0, v1, v2, v3, v4, v5, v6] (.ref (a + 6671) :: st) (mk S I L R G) Q := r_gf i_226_151 rfl (by decide) rfl
theorem q_226_154 : XX d 226 154 [v0, v1, v2, v3, v4, some (.int x), v6] st A Q ↔ XX d 226 156 [v0, v1, v2, v3, v4, some (.int x), v6] (.int x :: st) A Q := c_lcl i_226_154 rfl rfl
theorem q_226_156 : XX d 226 156 [v0, v1, v2, v3, v4, v5, v6] (.int x :: .ref a :: st) (mk S I L R G) Q ↔ inA (S a) ok_i x ∧ XX d 226 157 [v0, v1, v2, v3, v4, v5, v6] (.int (I a (ix x)) :: st) (mk S I L R G) Q := r_ia i_226_156
theorem q_226_157 : XX d 226 157 [v0, v1, v2, v3, v4, v5, v6] (.int x :: .ref a :: st) (mk S I L R G) Q ↔ inA (S a) ok_i x ∧ XX d 226 158 [v0, v1, v2, v3, v4, v5, v6] (.int (I a (ix x)) :: st) (mk S I L R G) Q := r_ia i_226_157
theorem q_226_158 : XX d 226 158 [v0, v1, v2, v3, v4, v5, v6] st A Q ↔ XX d 226 171 [v0, v1, v2, v3, v4, v5, v6] st A Q := c_go i_226_158 rfl rfl
theorem q_226_161 : XX d 226 161 [some (.ref a), v1, v2, v3, v4, v5, v6] st A Q ↔ XX d 226 162 [some (.ref a), v1, v2, v3, v4, v5, v6] (.ref a :: st) A Q := c_lcl i_226_161 rfl rfl
theorem q_226_162 : XX d 226 162 [v0, v1, v2, v3, v4, v5, v6] (.ref a :: st) (mk S I L R G) Q ↔ S a = some (.inr 12) ∧ XX d 226 165 [v0, v1, v2, v3, v4, v5, v6] (.ref (a + 6671) :: st) (mk S I L R G) Q := r_gf i_226_162 rfl (by decide) rfl
theorem q_226_165 : XX d 226 165 [v0, v1, v2, v3, v4, some (.int x), v6] st A Q ↔ XX d 226 167 [v0, v1, v2, v3, v4, some (.int x), v6] (.int x :: st) A Q := c_lcl i_226_165 rfl rfl
theorem q_226_167 : XX d 226 167 [v0, v1, v2, v3, v4, v5, v6] (.int x :: .ref a :: st) (mk S I L R G) Q ↔ inA (S a) ok_i x ∧ XX d 226 168 [v0, v1, v2, v3, v4, v5, v6] (.int (I a (ix x)) :: st) (mk S I L R G) Q := r_ia i_226_167
theorem q_226_168 : XX d 226 168 [v0, v1, v2, v3, v4, some (.int x), v6] st A Q ↔ XX d 226 170 [v0, v1, v2, v3, v4, some (.int x), v6] (.int x :: st) A Q := c_lcl i_226_168 rfl rfl
theorem q_226_170 : XX d 226 170 [v0, v1, v2, v3, v4, v5, v6] (.int y :: .int x :: st) A Q ↔ XX d 226 171 [v0, v1, v2, v3, v4, v5, v6] (.int (x - y) :: st) A Q := c_stk i_226_170 rfl
theorem q_226_171 : XX d 226 171 [v0, v1, v2, v3, v4, v5, v6] [.int x] A Q ↔ Q (.inl (some (.int x))) A := e_retI i_226_171 rfl
theorem q_226_e : XC d 226 [.ref a0, .int x1, .int x2, .int x3, .int x4] A Q ↔ XX d 226 0 [some (.ref a0), some (.int x1), some (.int x2), some (.int x3), some (.int x4), none, none] [] A Q := Iff.rfl
theorem i_227_0 : t_ins 227 0 = some (.aload_n 0) := by decide +kernel
theorem i_227_1 : t_ins 227 1 = some (.iconst 0) := by decide +kernel
theorem i_227_2 : t_ins 227 2 = some (.putfield 121) := by decide +kernel
theorem i_227_5 : t_ins 227 5 = some (.aload_n 0) := by decide +kernel
theorem i_227_6 : t_ins 227 6 = some (.iload_n 1) := by decide +kernel
theorem i_227_7 : t_ins 227 7 = some (.invokestatic 245) := by decide +kernel
theorem i_227_10 : t_ins 227 10 = some (.ifCond .ne 7) := by decide +kernel
theorem i_227_13 : t_ins 227 13 = some (.iconst 1) := by decide +kernel
theorem i_227_14 : t_ins 227 14 = some (.goto 4) := by decide +kernel
theorem i_227_17 : t_ins 227 17 = some (.iconst 0) := by decide +kernel
theorem i_227_18 : t_ins 227 18 = some (.iconst 1) := by decide +kernel
theorem i_227_19 : t_ins 227 19 = some (.iconst 0) := by decide +kernel
theorem i_227_20 : t_ins 227 20 = some (.invokevirtual 234) := by decide +kernel
theorem i_227_23 : t_ins 227 23 = some (.ifCond .ne 25) := by decide +kernel
theorem i_227_26 : t_ins 227 26 = some (.aload_n 0) := by decide +kernel
theorem i_227_27 : t_ins 227 27 = some (.aload_n 0) := by decide +kernel
theorem i_227_28 : t_ins 227 28 = some (.iload_n 2) := by decide +kernel
theorem i_227_29 : t_ins 227 29 = some (.invokevirtual 364) := by decide +kernel
theorem i_227_32 : t_ins 227 32 = some (.ifCond .ne 7) := by decide +kernel
theorem i_227_35 : t_ins 227 35 = some (.iconst 1) := by decide +kernel
theorem i_227_36 : t_ins 227 36 = some (.goto 4) := by decide +kernel
theorem i_227_39 : t_ins 227 39 = some (.iconst 0) := by decide +kernel
theorem i_227_40 : t_ins 227 40 = some (.iconst 2) := by decide +kernel
theorem i_227_41 : t_ins 227 41 = some (.iconst 1) := by decide +kernel
theorem i_227_42 : t_ins 227 42 = some (.invokevirtual 234) := by decide +kernel
theorem i_227_45 : t_ins 227 45 = some (.ifCond .eq 5) := by decide +kernel
theorem i_227_48 : t_ins 227 48 = some (.iconst 0) := by decide +kernel
theorem i_227_49 : t_ins 227 49 = some (.ireturn) := by decide +kernel
theorem i_227_50 : t_ins 227 50 = some (.aload_n 0) := by decide +kernel
theorem i_227_51 : t_ins 227 51 = some (.iload_n 1) := by decide +kernel
theorem i_227_52 : t_ins 227 52 = some (.invokevirtual 367) := by decide +kernel
theorem i_227_55 : t_ins 227 55 = some (.iconst 0) := by decide +kernel
theorem i_227_56 : t_ins 227 56 = some (.istore_n 3) := by decide +kernel
theorem i_227_57 : t_ins 227 57 = some (.iconst 0) := by decide +kernel
theorem i_227_58 : t_ins 227 58 = some (.istore 4) := by decide +kernel
theorem i_227_60 : t_ins 227 60 = some (.iload 4) := by decide +kernel
theorem i_227_62 : t_ins 227 62 = some (.aload_n 0) := by decide +kernel
theorem i_227_63 : t_ins 227 63 = some (.getfield 356) := by decide +kernel
theorem i_227_66 : t_ins 227 66 = some (.if_icmp .ge 51) := by decide +kernel
theorem i_227_69 : t_ins 227 69 = some (.iload 4) := by decide +kernel
theorem i_227_71 : t_ins 227 71 = some (.iconst 1) := by decide +kernel
theorem i_227_72 : t_ins 227 72 = some (.iadd) := by decide +kernel
theorem i_227_73 : t_ins 227 73 = some (.istore 5) := by decide +kernel
theorem i_227_75 : t_ins 227 75 = some (.iload 5) := by decide +kernel
theorem i_227_77 : t_ins 227 77 = some (.aload_n 0) := by decide +kernel
theorem i_227_78 : t_ins 227 78 = some (.getfield 356) := by decide +kernel
theorem i_227_81 : t_ins 227 81 = some (.if_icmp .gt 30) := by decide +kernel
theorem i_227_84 : t_ins 227 84 = some (.iload_n 3) := by decide +kernel
theorem i_227_85 : t_ins 227 85 = some (.aload_n 0) := by decide +kernel
theorem i_227_86 : t_ins 227 86 = some (.getfield 88) := by decide +kernel
theorem i_227_89 : t_ins 227 89 = some (.iload 4) := by decide +kernel
theorem i_227_91 : t_ins 227 91 = some (.aaload) := by decide +kernel
theorem i_227_92 : t_ins 227 92 = some (.iload 5) := by decide +kernel
theorem i_227_94 : t_ins 227 94 = some (.iaload) := by decide +kernel
theorem i_227_95 : t_ins 227 95 = some (.ifCond .le 7) := by decide +kernel
theorem i_227_98 : t_ins 227 98 = some (.iconst 1) := by decide +kernel
theorem i_227_99 : t_ins 227 99 = some (.goto 4) := by decide +kernel
theorem i_227_102 : t_ins 227 102 = some (.iconst 0) := by decide +kernel
theorem i_227_103 : t_ins 227 103 = some (.iadd) := by decide +kernel
theorem i_227_104 : t_ins 227 104 = some (.istore_n 3) := by decide +kernel
theorem i_227_105 : t_ins 227 105 = some (.iinc 5 1) := by decide +kernel
theorem i_227_108 : t_ins 227 108 = some (.goto (-33)) := by decide +kernel
theorem i_227_111 : t_ins 227 111 = some (.iinc 4 1) := by decide +kernel
theorem i_227_114 : t_ins 227 114 = some (.goto (-54)) := by decide +kernel
theorem i_227_117 : t_ins 227 117 = some (.iload_n 3) := by decide +kernel
theorem i_227_118 : t_ins 227 118 = some (.ireturn) := by decide +kernel
theorem q_227_0 : XX d 227 0 [some (.ref a), v1, v2, v3, v4, v5] st A Q ↔ XX d 227 1 [some (.ref a), v1, v2, v3, v4, v5] (.ref a :: st) A Q := c_lcl i_227_0 rfl rfl
theorem q_227_1 : XX d 227 1 [v0, v1, v2, v3, v4, v5] st A Q ↔ XX d 227 2 [v0, v1, v2, v3, v4, v5] (.int (w 0) :: st) A Q := c_stk i_227_1 rfl
theorem q_227_2 : XX d 227 2 [v0, v1, v2, v3, v4, v5] (.int x :: .ref a :: st) (mk S I L R G) Q ↔ S a = some (.inr 12) ∧ XX d 227 5 [v0, v1, v2, v3, v4, v5] st (mk S (wr I a (up (I a) 0 x)) L R G) Q := r_pf i_227_2 rfl (by decide) rfl rfl rfl
theorem q_227_5 : XX d 227 5 [some (.ref a), v1, v2, v3, v4, v5] st A Q ↔ XX d 227 6 [some (.ref a), v1, v2, v3, v4, v5] (.ref a :: st) A Q := c_lcl i_227_5 rfl rfl
theorem q_227_6 : XX d 227 6 [v0, some (.int x), v2, v3, v4, v5] st A Q ↔ XX d 227 7 [v0, some (.int x), v2, v3, v4, v5] (.int x :: st) A Q := c_lcl i_227_6 rfl rfl
theorem q_227_7 : XX (d + 1) 227 7 [v0, v1, v2, v3, v4, v5] [.int x0, .ref a1] A Q ↔ XC d 182 [.int x0] A (XK (d + 1) 227 7 [v0, v1, v2, v3, v4, v5] [.ref a1] Q) := c_callS i_227_7 rfl rfl rfl rfl (Nat.le_of_ble_eq_true rfl) (Nat.le_of_ble_eq_true rfl)
theorem q_227_10 : XX d 227 10 [v0, v1, v2, v3, v4, v5] (.int x :: st) A Q ↔ if x = w 0 then XX d 227 13 [v0, v1, v2, v3, v4, v5] st A Q else XX d 227 17 [v0, v1, v2, v3, v4, v5] st A Q := z_ne i_227_10 rfl rfl rfl
theorem q_227_13 : XX d 227 13 [v0, v1, v2, v3, v4, v5] st A Q ↔ XX d 227 14 [v0, v1, v2, v3, v4, v5] (.int (w 1) :: st) A Q := c_stk i_227_13 rfl
theorem q_227_14 : XX d 227 14 [v0, v1, v2, v3, v4, v5] st A Q ↔ XX d 227 18 [v0, v1, v2, v3, v4, v5] st A Q := c_go i_227_14 rfl rfl
theorem q_227_17 : XX d 227 17 [v0, v1, v2, v3, v4, v5] st A Q ↔ XX d 227 18 [v0, v1, v2, v3, v4, v5] (.int (w 0) :: st) A Q := c_stk i_227_17 rfl
theorem q_227_18 : XX d 227 18 [v0, v1, v2, v3, v4, v5] st A Q ↔ XX d 227 19 [v0, v1, v2, v3, v4, v5] (.int (w 1) :: st) A Q := c_stk i_227_18 rfl
theorem q_227_19 : XX d 227 19 [v0, v1, v2, v3, v4, v5] st A Q ↔ XX d 227 20 [v0, v1, v2, v3, v4, v5] (.int (w 0) :: st) A Q := c_stk i_227_19 rfl
theorem q_227_20 : XX (d + 1) 227 20 [v0, v1, v2, v3, v4, v5] [.int x3, .int x2, .int x1, .ref a0] (mk S I L R G) Q ↔ S a0 = some (.inr 12) ∧ XC d 154 [.ref a0, .int x1, .int x2, .int x3] (mk S I L R G) (XK (d + 1) 227 20 [v0, v1, v2, v3, v4, v5] [] Q) := c_callV i_227_20 rfl rfl rfl rfl (Nat.le_of_ble_eq_true rfl) (Nat.le_of_ble_eq_true rfl) rfl
theorem q_227_23 : XX d 227 23 [v0, v1, v2, v3, v4, v5] (.int x :: st) A Q ↔ if x = w 0 then XX d 227 26 [v0, v1, v2, v3, v4, v5] st A Q else XX d 227 48 [v0, v1, v2, v3, v4, v5] st A Q := z_ne i_227_23 rfl rfl rfl
theorem q_227_26 : XX d 227 26 [some (.ref a), v1, v2, v3, v4, v5] st A Q ↔ XX d 227 27 [some (.ref a), v1, v2, v3, v4, v5] (.ref a :: st) A Q := c_lcl i_227_26 rfl rfl
theorem q_227_27 : XX d 227 27 [some (.ref a), v1, v2, v3, v4, v5] st A Q ↔ XX d 227 28 [some (.ref a), v1, v2, v3, v4, v5] (.ref a :: st) A Q := c_lcl i_227_27 rfl rfl
theorem q_227_28 : XX d 227 28 [v0, v1, some (.int x), v3, v4, v5] st A Q ↔ XX d 227 29 [v0, v1, some (.int x), v3, v4, v5] (.int x :: st) A Q := c_lcl i_227_28 rfl rfl
theorem q_227_29 : XX (d + 1) 227 29 [v0, v1, v2, v3, v4, v5] [.int x1, .ref a0, .ref a2] (mk S I L R G) Q ↔ S a0 = some (.inr 12) ∧ XC d 222 [.ref a0, .int x1] (mk S I L R G) (XK (d + 1) 227 29 [v0, v1, v2, v3, v4, v5] [.ref a2] Q) := c_callV i_227_29 rfl rfl rfl rfl (Nat.le_of_ble_eq_true rfl) (Nat.le_of_ble_eq_true rfl) rfl
theorem q_227_32 : XX d 227 32 [v0, v1, v2, v3, v4, v5] (.int x :: st) A Q ↔ if x = w 0 then XX d 227 35 [v0, v1, v2, v3, v4, v5] st A Q else XX d 227 39 [v0, v1, v2, v3, v4, v5] st A Q := z_ne i_227_32 rfl rfl rfl
theorem q_227_35 : XX d 227 35 [v0, v1, v2, v3, v4, v5] st A Q ↔ XX d 227 36 [v0, v1, v2, v3, v4, v5] (.int (w 1) :: st) A Q := c_stk i_227_35 rfl
theorem q_227_36 : XX d 227 36 [v0, v1, v2, v3, v4, v5] st A Q ↔ XX d 227 40 [v0, v1, v2, v3, v4, v5] st A Q := c_go i_227_36 rfl rfl
theorem q_227_39 : XX d 227 39 [v0, v1, v2, v3, v4, v5] st A Q ↔ XX d 227 40 [v0, v1, v2, v3, v4, v5] (.int (w 0) :: st) A Q := c_stk i_227_39 rfl
theorem q_227_40 : XX d 227 40 [v0, v1, v2, v3, v4, v5] st A Q ↔ XX d 227 41 [v0, v1, v2, v3, v4, v5] (.int (w 2) :: st) A Q := c_stk i_227_40 rfl
theorem q_227_41 : XX d 227 41 [v0, v1, v2, v3, v4, v5] st A Q ↔ XX d 227 42 [v0, v1, v2, v3, v4, v5] (.int (w 1) :: st) A Q := c_stk i_227_41 rfl
theorem q_227_42 : XX (d + 1) 227 42 [v0, v1, v2, v3, v4, v5] [.int x3, .int x2, .int x1, .ref a0] (mk S I L R G) Q ↔ S a0 = some (.inr 12) ∧ XC d 154 [.ref a0, .int x1, .int x2, .int x3] (mk S I L R G) (XK (d + 1) 227 42 [v0, v1, v2, v3, v4, v5] [] Q) := c_callV i_227_42 rfl rfl rfl rfl (Nat.le_of_ble_eq_true rfl) (Nat.le_of_ble_eq_true rfl) rfl
theorem q_227_45 : XX d 227 45 [v0, v1, v2, v3, v4, v5] (.int x :: st) A Q ↔ if x = w 0 then XX d 227 50 [v0, v1, v2, v3, v4, v5] st A Q else XX d 227 48 [v0, v1, v2, v3, v4, v5] st A Q := z_eq i_227_45 rfl rfl rfl
theorem q_227_48 : XX d 227 48 [v0, v1, v2, v3, v4, v5] st A Q ↔ XX d 227 49 [v0, v1, v2, v3, v4, v5] (.int (w 0) :: st) A Q := c_stk i_227_48 rfl
theorem q_227_49 : XX d 227 49 [v0, v1, v2, v3, v4, v5] [.int x] A Q ↔ Q (.inl (some (.int x))) A := e_retI i_227_49 rfl
theorem q_227_50 : XX d 227 50 [some (.ref a), v1, v2, v3, v4, v5] st A Q ↔ XX d 227 51 [some (.ref a), v1, v2, v3, v4, v5] (.ref a :: st) A Q := c_lcl i_227_50 rfl rfl
theorem q_227_51 : XX d 227 51 [v0, some (.int x), v2, v3, v4, v5] st A Q ↔ XX d 227 52 [v0, some (.int x), v2, v3, v4, v5] (.int x :: st) A Q := c_lcl i_227_51 rfl rfl
theorem q_227_52 : XX (d + 1) 227 52 [v0, v1, v2, v3, v4, v5] [.int x1, .ref a0] (mk S I L R G) Q ↔ S a0 = some (.inr 12) ∧ XC d 223 [.ref a0, .int x1] (mk S I L R G) (XK (d + 1) 227 52 [v0, v1, v2, v3, v4, v5] [] Q) := c_callV i_227_52 rfl rfl rfl rfl (Nat.le_of_ble_eq_true rfl) (Nat.le_of_ble_eq_true rfl) rfl
theorem q_227_55 : XX d 227 55 [v0, v1, v2, v3, v4, v5] st A Q ↔ XX d 227 56 [v0, v1, v2, v3, v4, v5] (.int (w 0) :: st) A Q := c_stk i_227_55 rfl
theorem q_227_56 : XX d 227 56 [v0, v1, some (.int z), v3, v4, v5] (.int x :: st) A Q ↔ XX d 227 57 [v0, v1, some (.int z), some (.int x), v4, v5] st A Q := c_lcl i_227_56 rfl rfl
theorem q_227_57 : XX d 227 57 [v0, v1, v2, v3, v4, v5] st A Q ↔ XX d 227 58 [v0, v1, v2, v3, v4, v5] (.int (w 0) :: st) A Q := c_stk i_227_57 rfl
theorem q_227_58 : XX d 227 58 [v0, v1, v2, some (.int z), v4, v5] (.int x :: st) A Q ↔ XX d 227 60 [v0, v1, v2, some (.int z), some (.int x), v5] st A Q := c_lcl i_227_58 rfl rfl
theorem q_227_60 : XX d 227 60 [v0, v1, v2, v3, some (.int x), v5] st A Q ↔ XX d 227 62 [v0, v1, v2, v3, some (.int x), v5] (.int x :: st) A Q := c_lcl i_227_60 rfl rfl
theorem q_227_62 : XX d 227 62 [some (.ref a), v1, v2, v3, v4, v5] st A Q ↔ XX d 227 63 [some (.ref a), v1, v2, v3, v4, v5] (.ref a :: st) A Q := c_lcl i_227_62 rfl rfl
theorem q_227_63 : XX d 227 63 [v0, v1, v2, v3, v4, v5] (.ref a :: st) (mk S I L R G) Q ↔ S a = some (.inr 12) ∧ XX d 227 66 [v0, v1, v2, v3, v4, v5] (.int (I a 36) :: st) (mk S I L R G) Q := r_gf i_227_63 rfl (by decide) rfl
theorem q_227_66 : XX d 227 66 [v0, v1, v2, v3, v4, v5] (.int y :: .int x :: st) A Q ↔ if x < y then XX d 227 69 [v0, v1, v2, v3, v4, v5] st A Q else XX d 227 117 [v0, v1, v2, v3, v4, v5] st A Q := b_ge i_227_66 rfl rfl rfl
theorem q_227_69 : XX d 227 69 [v0, v1, v2, v3, some (.int x), v5] st A Q ↔ XX d 227 71 [v0, v1, v2, v3, some (.int x), v5] (.int x :: st) A Q := c_lcl i_227_69 rfl rfl
theorem q_227_71 : XX d 227 71 [v0, v1, v2, v3, v4, v5] st A Q ↔ XX d 227 72 [v0, v1, v2, v3, v4, v5] (.int (w 1) :: st) A Q := c_stk i_227_71 rfl
theorem q_227_72 : XX d 227 72 [v0, v1, v2, v3, v4, v5] (.int y :: .int x :: st) A Q ↔ XX d 227 73 [v0, v1, v2, v3, v4, v5] (.int (x + y) :: st) A Q := c_stk i_227_72 rfl
theorem q_227_73 : XX d 227 73 [v0, v1, v2, v3, some (.int z), v5] (.int x :: st) A Q ↔ XX d 227 75 [v0, v1, v2, v3, some (.int z), some (.int x)] st A Q := c_lcl i_227_73 rfl rfl
theorem q_227_75 : XX d 227 75 [v0, v1, v2, v3, v4, some (.int x)] st A Q ↔ XX d 227 77 [v0, v1, v2, v3, v4, some (.int x)] (.int x :: st) A Q := c_lcl i_227_75 rfl rfl
theorem q_227_77 : XX d 227 77 [some (.ref a), v1, v2, v3, v4, v5] st A Q ↔ XX d 227 78 [some (.ref a), v1, v2, v3, v4, v5] (.ref a :: st) A Q := c_lcl i_227_77 rfl rfl
theorem q_227_78 : XX d 227 78 [v0, v1, v2, v3, v4, v5] (.ref a :: st) (mk S I L R G) Q ↔ S a = some (.inr 12) ∧ XX d 227 81 [v0, v1, v2, v3, v4, v5] (.int (I a 36) :: st) (mk S I L R G) Q := r_gf i_227_78 rfl (by decide) rfl
theorem q_227_81 : XX d 227 81 [v0, v1, v2, v3, v4, v5] (.int y :: .int x :: st) A Q ↔ if y < x then XX d 227 111 [v0, v1, v2, v3, v4, v5] st A Q else XX d 227 84 [v0, v1, v2, v3, v4, v5] st A Q := b_gt i_227_81 rfl rfl rfl
theorem q_227_84 : XX d 227 84 [v0, v1, v2, some (.int x), v4, v5] st A Q ↔ XX d 227 85 [v0, v1, v2, some (.int x), v4, v5] (.int x :: st) A Q := c_lcl i_227_84 rfl rfl
theorem q_227_85 : XX d 227 85 [some (.ref a), v1, v2, v3, v4, v5] st A Q ↔ XX d 227 86 [some (.ref a), v1, v2, v3, v4, v5] (.ref a :: st) A Q := c_lcl i_227_85 rfl rfl
theorem q_227_86 : XX d 227 86 [v0, v1, v2, v3, v4, v5] (.ref a :: st) (mk S I L R G) Q ↔ S a = some (.inr 12) ∧ XX d 227 89 [v0, v1, v2, v3, v4, v5] (.ref (a + 6588) :: st) (mk S I L R G) Q := r_gf i_227_86 rfl (by decide) rfl
theorem q_227_89 : XX d 227 89 [v0, v1, v2, v3, some (.int x), v5] st A Q ↔ XX d 227 91 [v0, v1, v2, v3, some (.int x), v5] (.int x :: st) A Q := c_lcl i_227_89 rfl rfl
theorem q_227_91 : XX d 227 91 [v0, v1, v2, v3, v4, v5] (.int x :: .ref a :: st) (mk S I L R G) Q ↔ inA (S a) ok_q x ∧ XX d 227 92 [v0, v1, v2, v3, v4, v5] (va_rf (R a (ix x)) :: st) (mk S I L R G) Q := r_aq i_227_91
theorem q_227_92 : XX d 227 92 [v0, v1, v2, v3, v4, some (.int x)] st A Q ↔ XX d 227 94 [v0, v1, v2, v3, v4, some (.int x)] (.int x :: st) A Q := c_lcl i_227_92 rfl rfl
theorem q_227_94 : XX d 227 94 [v0, v1, v2, v3, v4, v5] (.int x :: .ref a :: st) (mk S I L R G) Q ↔ inA (S a) ok_i x ∧ XX d 227 95 [v0, v1, v2, v3, v4, v5] (.int (I a (ix x)) :: st) (mk S I L R G) Q := r_ia i_227_94
theorem q_227_95 : XX d 227 95 [v0, v1, v2, v3, v4, v5] (.int x :: st) A Q ↔ if w 0 < x then XX d 227 98 [v0, v1, v2, v3, v4, v5] st A Q else XX d 227 102 [v0, v1, v2, v3, v4, v5] st A Q := z_le i_227_95 rfl rfl rfl
theorem q_227_98 : XX d 227 98 [v0, v1, v2, v3, v4, v5] st A Q ↔ XX d 227 99 [v0, v1, v2, v3, v4, v5] (.int (w 1) :: st) A Q := c_stk i_227_98 rfl
theorem q_227_99 : XX d 227 99 [v0, v1, v2, v3, v4, v5] st A Q ↔ XX d 227 103 [v0, v1, v2, v3, v4, v5] st A Q := c_go i_227_99 rfl rfl
theorem q_227_102 : XX d 227 102 [v0, v1, v2, v3, v4, v5] st A Q ↔ XX d 227 103 [v0, v1, v2, v3, v4, v5] (.int (w 0) :: st) A Q := c_stk i_227_102 rfl
theorem q_227_103 : XX d 227 103 [v0, v1, v2, v3, v4, v5] (.int y :: .int x :: st) A Q ↔ XX d 227 104 [v0, v1, v2, v3, v4, v5] (.int (x + y) :: st) A Q := c_stk i_227_103 rfl
theorem q_227_104 : XX d 227 104 [v0, v1, some (.int z), v3, v4, v5] (.int x :: st) A Q ↔ XX d 227 105 [v0, v1, some (.int z), some (.int x), v4, v5] st A Q := c_lcl i_227_104 rfl rfl
theorem q_227_105 : XX d 227 105 [v0, v1, v2, v3, some (.int z), some (.int x)] st A Q ↔ XX d 227 108 [v0, v1, v2, v3, some (.int z), some (.int (x + w 1))] st A Q := c_lcl i_227_105 rfl rfl
theorem q_227_108 : XX d 227 108 [v0, v1, v2, v3, v4, v5] st A Q ↔ XX d 227 75 [v0, v1, v2, v3, v4, v5] st A Q := c_go i_227_108 rfl rfl
theorem q_227_111 : XX d 227 111 [v0, v1, v2, some (.int z), some (.int x), v5] st A Q ↔ XX d 227 114 [v0, v1, v2, some (.int z), some (.int (x + w 1)), v5] st A Q := c_lcl i_227_111 rfl rfl
theorem q_227_114 : XX d 227 114 [v0, v1, v2, v3, v4, v5] st A Q ↔ XX d 227 60 [v0, v1, v2, v3, v4, v5] st A Q := c_go i_227_114 rfl rfl
theorem q_227_117 : XX d 227 117 [v0, v1, v2, some (.int x), v4, v5] st A Q ↔ XX d 227 118 [v0, v1, v2, some (.int x), v4, v5] (.int x :: st) A Q := c_lcl i_227_117 rfl rfl
theorem q_227_118 : XX d 227 118 [v0, v1, v2, v3, v4, v5] [.int x] A Q ↔ Q (.inl (some (.int x))) A := e_retI i_227_118 rfl
theorem q_227_e : XC d 227 [.ref a0, .int x1, .int x2] A Q ↔ XX d 227 0 [some (.ref a0), some (.int x1), some (.int x2), none, none, none] [] A Q := Iff.rfl
theorem i_228_0 : t_ins 228 0 = some (.aload_n 0) := by decide +kernel
theorem i_228_1 : t_ins 228 1 = some (.iconst 0) := by decide +kernel
theorem i_228_2 : t_ins 228 2 = some (.putfield 121) := by decide +kernel
theorem i_228_5 : t_ins 228 5 = some (.aload_n 0) := by decide +kernel
theorem i_228_6 : t_ins 228 6 = some (.iload_n 1) := by decide +kernel
theorem i_228_7 : t_ins 228 7 = some (.invokestatic 245) := by decide +kernel
theorem i_228_10 : t_ins 228 10 = some (.ifCond .ne 7) := by decide +kernel
theorem i_228_13 : t_ins 228 13 = some (.iconst 1) := by decide +kernel
theorem i_228_14 : t_ins 228 14 = some (.goto 4) := by decide +kernel
theorem i_228_17 : t_ins 228 17 = some (.iconst 0) := by decide +kernel
theorem i_228_18 : t_ins 228 18 = some (.iconst 1) := by decide +kernel
theorem i_228_19 : t_ins 228 19 = some (.iconst 0) := by decide +kernel
theorem i_228_20 : t_ins 228 20 = some (.invokevirtual 234) := by decide +kernel
theorem i_228_23 : t_ins 228 23 = some (.ifCond .eq 5) := by decide +kernel
theorem i_228_26 : t_ins 228 26 = some (.iconst 0) := by decide +kernel
theorem i_228_27 : t_ins 228 27 = some (.ireturn) := by decide +kernel
theorem i_228_28 : t_ins 228 28 = some (.aload_n 0) := by decide +kernel
theorem i_228_29 : t_ins 228 29 = some (.iload_n 1) := by decide +kernel
theorem i_228_30 : t_ins 228 30 = some (.invokevirtual 301) := by decide +kernel
theorem i_228_33 : t_ins 228 33 = some (.aload_n 0) := by decide +kernel
theorem i_228_34 : t_ins 228 34 = some (.iconst 1) := by decide +kernel
theorem i_228_35 : t_ins 228 35 = some (.iload_n 1) := by decide +kernel
theorem i_228_36 : t_ins 228 36 = some (.isub) := by decide +kernel
theorem i_228_37 : t_ins 228 37 = some (.iload_n 2) := by decide +kernel
theorem i_228_38 : t_ins 228 38 = some (.invokevirtual 292) := by decide +kernel
theorem i_228_41 : t_ins 228 41 = some (.ifCond .ne 5) := by decide +kernel
theorem i_228_44 : t_ins 228 44 = some (.iconst (-1)) := by decide +kernel
theorem i_228_45 : t_ins 228 45 = some (.ireturn) := by decide +kernel
theorem i_228_46 : t_ins 228 46 = some (.aload_n 0) := by decide +kernel
theorem i_228_47 : t_ins 228 47 = some (.aload_n 0) := by decide +kernel
theorem i_228_48 : t_ins 228 48 = some (.getfield 39) := by decide +kernel
theorem i_228_51 : t_ins 228 51 = some (.iconst 0) := by decide +kernel
theorem i_228_52 : t_ins 228 52 = some (.aload_n 0) := by decide +kernel
theorem i_228_53 : t_ins 228 53 = some (.getfield 281) := by decide +kernel
theorem i_228_56 : t_ins 228 56 = some (.invokevirtual 352) := by decide +kernel
theorem i_228_59 : t_ins 228 59 = some (.aload_n 0) := by decide +kernel
theorem i_228_60 : t_ins 228 60 = some (.getfield 339) := by decide +kernel
theorem i_228_63 : t_ins 228 63 = some (.ireturn) := by decide +kernel
theorem q_228_0 : XX d 228 0 [some (.ref a), v1, v2] st A Q ↔ XX d 228 1 [some (.ref a), v1, v2] (.ref a :: st) A Q := c_lcl i_228_0 rfl rfl
theorem q_228_1 : XX d 228 1 [v0, v1, v2] st A Q ↔ XX d 228 2 [v0, v1, v2] (.int (w 0) :: st) A Q := c_stk i_228_1 rfl
theorem q_228_2 : XX d 228 2 [v0, v1, v2] (.int x :: .ref a :: st) (mk S I L R G) Q ↔ S a = some (.inr 12) ∧ XX d 228 5 [v0, v1, v2] st (mk S (wr I a (up (I a) 0 x)) L R G) Q := r_pf i_228_2 rfl (by decide) rfl rfl rfl
theorem q_228_5 : XX d 228 5 [some (.ref a), v1, v2] st A Q ↔ XX d 228 6 [some (.ref a), v1, v2] (.ref a :: st) A Q := c_lcl i_228_5 rfl rfl
theorem q_228_6 : XX d 228 6 [v0, some (.int x), v2] st A Q ↔ XX d 228 7 [v0, some (.int x), v2] (.int x :: st) A Q := c_lcl i_228_6 rfl rfl
theorem q_228_7 : XX (d + 1) 228 7 [v0, v1, v2] [.int x0, .ref a1] A Q ↔ XC d 182 [.int x0] A (XK (d + 1) 228 7 [v0, v1, v2] [.ref a1] Q) := c_callS i_228_7 rfl rfl rfl rfl (Nat.le_of_ble_eq_true rfl) (Nat.le_of_ble_eq_true rfl)
theorem q_228_10 : XX d 228 10 [v0, v1, v2] (.int x :: st) A Q ↔ if x = w 0 then XX d 228 13 [v0, v1, v2] st A Q else XX d 228 17 [v0, v1, v2] st A Q := z_ne i_228_10 rfl rfl rfl
theorem q_228_13 : XX d 228 13 [v0, v1, v2] st A Q ↔ XX d 228 14 [v0, v1, v2] (.int (w 1) :: st) A Q := c_stk i_228_13 rfl
theorem q_228_14 : XX d 228 14 [v0, v1, v2] st A Q ↔ XX d 228 18 [v0, v1, v2] st A Q := c_go i_228_14 rfl rfl
theorem q_228_17 : XX d 228 17 [v0, v1, v2] st A Q ↔ XX d 228 18 [v0, v1, v2] (.int (w 0) :: st) A Q := c_stk i_228_17 rfl
theorem q_228_18 : XX d 228 18 [v0, v1, v2] st A Q ↔ XX d 228 19 [v0, v1, v2] (.int (w 1) :: st) A Q := c_stk i_228_18 rfl
theorem q_228_19 : XX d 228 19 [v0, v1, v2] st A Q ↔ XX d 228 20 [v0, v1, v2] (.int (w 0) :: st) A Q := c_stk i_228_19 rfl
theorem q_228_20 : XX (d + 1) 228 20 [v0, v1, v2] [.int x3, .int x2, .int x1, .ref a0] (mk S I L R G) Q ↔ S a0 = some (.inr 12) ∧ XC d 154 [.ref a0, .int x1, .int x2, .int x3] (mk S I L R G) (XK (d + 1) 228 20 [v0, v1, v2] [] Q) := c_callV i_228_20 rfl rfl rfl rfl (Nat.le_of_ble_eq_true rfl) (Nat.le_of_ble_eq_true rfl) rfl
theorem q_228_23 : XX d 228 23 [v0, v1, v2] (.int x :: st) A Q ↔ if x = w 0 then XX d 228 28 [v0, v1, v2] st A Q else XX d 228 26 [v0, v1, v2] st A Q := z_eq i_228_23 rfl rfl rfl
theorem q_228_26 : XX d 228 26 [v0, v1, v2] st A Q ↔ XX d 228 27 [v0, v1, v2] (.int (w 0) :: st) A Q := c_stk i_228_26 rfl
theorem q_228_27 : XX d 228 27 [v0, v1, v2] [.int x] A Q ↔ Q (.inl (some (.int x))) A := e_retI i_228_27 rfl
theorem q_228_28 : XX d 228 28 [some (.ref a), v1, v2] st A Q ↔ XX d 228 29 [some (.ref a), v1, v2] (.ref a :: st) A Q := c_lcl i_228_28 rfl rfl
theorem q_228_29 : XX d 228 29 [v0, some (.int x), v2] st A Q ↔ XX d 228 30 [v0, some (.int x), v2] (.int x :: st) A Q := c_lcl i_228_29 rfl rfl
theorem q_228_30 : XX (d + 1) 228 30 [v0, v1, v2] [.int x1, .ref a0] (mk S I L R G) Q ↔ S a0 = some (.inr 12) ∧ XC d 194 [.ref a0, .int x1] (mk S I L R G) (XK (d + 1) 228 30 [v0, v1, v2] [] Q) := c_callV i_228_30 rfl rfl rfl rfl (Nat.le_of_ble_eq_true rfl) (Nat.le_of_ble_eq_true rfl) rfl
theorem q_228_33 : XX d 228 33 [some (.ref a), v1, v2] st A Q ↔ XX d 228 34 [some (.ref a), v1, v2] (.ref a :: st) A Q := c_lcl i_228_33 rfl rfl
theorem q_228_34 : XX d 228 34 [v0, v1, v2] st A Q ↔ XX d 228 35 [v0, v1, v2] (.int (w 1) :: st) A Q := c_stk i_228_34 rfl
theorem q_228_35 : XX d 228 35 [v0, some (.int x), v2] st A Q ↔ XX d 228 36 [v0, some (.int x), v2] (.int x :: st) A Q := c_lcl i_228_35 rfl rfl
theorem q_228_36 : XX d 228 36 [v0, v1, v2] (.int y :: .int x :: st) A Q ↔ XX d 228 37 [v0, v1, v2] (.int (x - y) :: st) A Q := c_stk i_228_36 rfl
theorem q_228_37 : XX d 228 37 [v0, v1, some (.int x)] st A Q ↔ XX d 228 38 [v0, v1, some (.int x)] (.int x :: st) A Q := c_lcl i_228_37 rfl rfl
theorem q_228_38 : XX (d + 1) 228 38 [v0, v1, v2] [.int x2, .int x1, .ref a0] (mk S I L R G) Q ↔ S a0 = some (.inr 12) ∧ XC d 193 [.ref a0, .int x1, .int x2] (mk S I L R G) (XK (d + 1) 228 38 [v0, v1, v2] [] Q) := c_callV i_228_38 rfl rfl rfl rfl (Nat.le_of_ble_eq_true rfl) (Nat.le_of_ble_eq_true rfl) rfl
theorem q_228_41 : XX d 228 41 [v0, v1, v2] (.int x :: st) A Q ↔ if x = w 0 then XX d 228 44 [v0, v1, v2] st A Q else XX d 228 46 [v0, v1, v2] st A Q := z_ne i_228_41 rfl rfl rfl
theorem q_228_44 : XX d 228 44 [v0, v1, v2] st A Q ↔ XX d 228 45 [v0, v1, v2] (.int (w (-1)) :: st) A Q := c_stk i_228_44 rfl
theorem q_228_45 : XX d 228 45 [v0, v1, v2] [.int x] A Q ↔ Q (.inl (some (.int x))) A := e_retI i_228_45 rfl
theorem q_228_46 : XX d 228 46 [some (.ref a), v1, v2] st A Q ↔ XX d 228 47 [some (.ref a), v1, v2] (.ref a :: st) A Q := c_lcl i_228_46 rfl rfl
theorem q_228_47 : XX d 228 47 [some (.ref a), v1, v2] st A Q ↔ XX d 228 48 [some (.ref a), v1, v2] (.ref a :: st) A Q := c_lcl i_228_47 rfl rfl
theorem q_228_48 : XX d 228 48 [v0, v1, v2] (.ref a :: st) (mk S I L R G) Q ↔ S a = some (.inr 12) ∧ XX d 228 51 [v0, v1, v2] (.ref (a + 6541) :: st) (mk S I L R G) Q := r_gf i_228_48 rfl (by decide) rfl
theorem q_228_51 : XX d 228 51 [v0, v1, v2] st A Q ↔ XX d 228 52 [v0, v1, v2] (.int (w 0) :: st) A Q := c_stk i_228_51 rfl
theorem q_228_52 : XX d 228 52 [some (.ref a), v1, v2] st A Q ↔ XX d 228 53 [some (.ref a), v1, v2] (.ref a :: st) A Q := c_lcl i_228_52 rfl rfl
theorem q_228_53 : XX d 228 53 [v0, v1, v2] (.ref a :: st) (mk S I L R G) Q ↔ S a = some (.inr 12) ∧ XX d 228 56 [v0, v1, v2] (.int (I a 16) :: st) (mk S I L R G) Q := r_gf i_228_53 rfl (by decide) rfl
theorem q_228_56 : XX (d + 1) 228 56 [v0, v1, v2] [.int x3, .int x2, .ref a1, .ref a0] (mk S I L R G) Q ↔ S a0 = some (.inr 12) ∧ XC d 219 [.ref a0, .ref a1, .int x2, .int x3] (mk S I L R G) (XK (d + 1) 228 56 [v0, v1, v2] [] Q) := c_callV i_228_56 rfl rfl rfl rfl (Nat.le_of_ble_eq_true rfl) (Nat.le_of_ble_eq_true rfl) rfl
theorem q_228_59 : XX d 228 59 [some (.ref a), v1, v2] st A Q ↔ XX d 228 60 [some (.ref a), v1, v2] (.ref a :: st) A Q := c_lcl i_228_59 rfl rfl
theorem q_228_60 : XX d 228 60 [v0, v1, v2] (.ref a :: st) (mk S I L R G) Q ↔ S a = some (.inr 12) ∧ XX d 228 63 [v0, v1, v2] (.int (I a 33) :: st) (mk S I L R G) Q := r_gf i_228_60 rfl (by decide) rfl
theorem q_228_63 : XX d 228 63 [v0, v1, v2] [.int x] A Q ↔ Q (.inl (some (.int x))) A := e_retI i_228_63 rfl
theorem q_228_e : XC d 228 [.ref a0, .int x1, .int x2] A Q ↔ XX d 228 0 [some (.ref a0), some (.int x1), some (.int x2)] [] A Q := Iff.rfl
theorem i_229_0 : t_ins 229 0 = some (.aload_n 0) := by decide +kernel
theorem i_229_1 : t_ins 229 1 = some (.iconst 0) := by decide +kernel
theorem i_229_2 : t_ins 229 2 = some (.putfield 121) := by decide +kernel
theorem i_229_5 : t_ins 229 5 = some (.aload_n 0) := by decide +kernel
theorem i_229_6 : t_ins 229 6 = some (.iconst 0) := by decide +kernel
theorem i_229_7 : t_ins 229 7 = some (.invokevirtual 308) := by decide +kernel
theorem i_229_10 : t_ins 229 10 = some (.aload_n 0) := by decide +kernel
theorem i_229_11 : t_ins 229 11 = some (.iconst 1) := by decide +kernel
theorem i_229_12 : t_ins 229 12 = some (.invokevirtual 301) := by decide +kernel
theorem i_229_15 : t_ins 229 15 = some (.iconst 0) := by decide +kernel
theorem i_229_16 : t_ins 229 16 = some (.istore_n 1) := by decide +kernel
theorem i_229_17 : t_ins 229 17 = some (.iconst 0) := by decide +kernel
theorem i_229_18 : t_ins 229 18 = some (.istore_n 2) := by decide +kernel
theorem i_229_19 : t_ins 229 19 = some (.iload_n 2) := by decide +kernel
theorem i_229_20 : t_ins 229 20 = some (.aload_n 0) := by decide +kernel
theorem i_229_21 : t_ins 229 21 = some (.getfield 36) := by decide +kernel
theorem i_229_24 : t_ins 229 24 = some (.if_icmp .gt 35) := by decide +kernel
theorem i_229_27 : t_ins 229 27 = some (.iload_n 1) := by decide +kernel
theorem i_229_28 : t_ins 229 28 = some (.aload_n 0) := by decide +kernel
theorem i_229_29 : t_ins 229 29 = some (.getfield 61) := by decide +kernel
theorem i_229_32 : t_ins 229 32 = some (.iload_n 2) := by decide +kernel
theorem i_229_33 : t_ins 229 33 = some (.iaload) := by decide +kernel
theorem i_229_34 : t_ins 229 34 = some (.iconst (-1)) := by decide +kernel
theorem i_229_35 : t_ins 229 35 = some (.if_icmp .eq 15) := by decide +kernel
theorem i_229_38 : t_ins 229 38 = some (.aload_n 0) := by decide +kernel
theorem i_229_39 : t_ins 229 39 = some (.iload_n 2) := by decide +kernel
theorem i_229_40 : t_ins 229 40 = some (.invokevirtual 305) := by decide +kernel
theorem i_229_43 : t_ins 229 43 = some (.ifCond .eq 7) := by decide +kernel
theorem i_229_46 : t_ins 229 46 = some (.iconst 1) := by decide +kernel
theorem i_229_47 : t_ins 229 47 = some (.goto 4) := by decide +kernel
theorem i_229_50 : t_ins 229 50 = some (.iconst 0) := by decide +kernel
theorem i_229_51 : t_ins 229 51 = some (.iadd) := by decide +kernel
theorem i_229_52 : t_ins 229 52 = some (.istore_n 1) := by decide +kernel
theorem i_229_53 : t_ins 229 53 = some (.iinc 2 1) := by decide +kernel
theorem i_229_56 : t_ins 229 56 = some (.goto (-37)) := by decide +kernel
theorem i_229_59 : t_ins 229 59 = some (.iload_n 1) := by decide +kernel
theorem i_229_60 : t_ins 229 60 = some (.ireturn) := by decide +kernel
theorem q_229_0 : XX d 229 0 [some (.ref a), v1, v2] st A Q ↔ XX d 229 1 [some (.ref a), v1, v2] (.ref a :: st) A Q := c_lcl i_229_0 rfl rfl
theorem q_229_1 : XX d 229 1 [v0, v1, v2] st A Q ↔ XX d 229 2 [v0, v1, v2] (.int (w 0) :: st) A Q := c_stk i_229_1 rfl
theorem q_229_2 : XX d 229 2 [v0, v1, v2] (.int x :: .ref a :: st) (mk S I L R G) Q ↔ S a = some (.inr 12) ∧ XX d 229 5 [v0, v1, v2] st (mk S (wr I a (up (I a) 0 x)) L R G) Q := r_pf i_229_2 rfl (by decide) rfl rfl rfl
theorem q_229_5 : XX d 229 5 [some (.ref a), v1, v2] st A Q ↔ XX d 229 6 [some (.ref a), v1, v2] (.ref a :: st) A Q := c_lcl i_229_5 rfl rfl
theorem q_229_6 : XX d 229 6 [v0, v1, v2] st A Q ↔ XX d 229 7 [v0, v1, v2] (.int (w 0) :: st) A Q := c_stk i_229_6 rfl
theorem q_229_7 : XX (d + 1) 229 7 [v0, v1, v2] [.int x1, .ref a0] (mk S I L R G) Q ↔ S a0 = some (.inr 12) ∧ XC d 197 [.ref a0, .int x1] (mk S I L R G) (XK (d + 1) 229 7 [v0, v1, v2] [] Q) := c_callV i_229_7 rfl rfl rfl rfl (Nat.le_of_ble_eq_true rfl) (Nat.le_of_ble_eq_true rfl) rfl
theorem q_229_10 : XX d 229 10 [some (.ref a), v1, v2] st A Q ↔ XX d 229 11 [some (.ref a), v1, v2] (.ref a :: st) A Q := c_lcl i_229_10 rfl rfl
theorem q_229_11 : XX d 229 11 [v0, v1, v2] st A Q ↔ XX d 229 12 [v0, v1, v2] (.int (w 1) :: st) A Q := c_stk i_229_11 rfl
theorem q_229_12 : XX (d + 1) 229 12 [v0, v1, v2] [.int x1, .ref a0] (mk S I L R G) Q ↔ S a0 = some (.inr 12) ∧ XC d 194 [.ref a0, .int x1] (mk S I L R G) (XK (d + 1) 229 12 [v0, v1, v2] [] Q) := c_callV i_229_12 rfl rfl rfl rfl (Nat.le_of_ble_eq_true rfl) (Nat.le_of_ble_eq_true rfl) rfl
theorem q_229_15 : XX d 229 15 [v0, v1, v2] st A Q ↔ XX d 229 16 [v0, v1, v2] (.int (w 0) :: st) A Q := c_stk i_229_15 rfl
theorem q_229_16 : XX d 229 16 [some (.ref b), v1, v2] (.int x :: st) A Q ↔ XX d 229 17 [some (.ref b), some (.int x), v2] st A Q := c_lcl i_229_16 rfl rfl
theorem q_229_17 : XX d 229 17 [v0, v1, v2] st A Q ↔ XX d 229 18 [v0, v1, v2] (.int (w 0) :: st) A Q := c_stk i_229_17 rfl
theorem q_229_18 : XX d 229 18 [v0, some (.int z), v2] (.int x :: st) A Q ↔ XX d 229 19 [v0, some (.int z), some (.int x)] st A Q := c_lcl i_229_18 rfl rfl
theorem q_229_19 : XX d 229 19 [v0, v1, some (.int x)] st A Q ↔ XX d 229 20 [v0, v1, some (.int x)] (.int x :: st) A Q := c_lcl i_229_19 rfl rfl
theorem q_229_20 : XX d 229 20 [some (.ref a), v1, v2] st A Q ↔ XX d 229 21 [some (.ref a), v1, v2] (.ref a :: st) A Q := c_lcl i_229_20 rfl rfl
theorem q_229_21 : XX d 229 21 [v0, v1, v2] (.ref a :: st) (mk S I L R G) Q ↔ S a = some (.inr 12) ∧ XX d 229 24 [v0, v1, v2] (.int (I a 13) :: st) (mk S I L R G) Q := r_gf i_229_21 rfl (by decide) rfl
theorem q_229_24 : XX d 229 24 [v0, v1, v2] (.int y :: .int x :: st) A Q ↔ if y < x then XX d 229 59 [v0, v1, v2] st A Q else XX d 229 27 [v0, v1, v2] st A Q := b_gt i_229_24 rfl rfl rfl
theorem q_229_27 : XX d 229 27 [v0, some (.int x), v2] st A Q ↔ XX d 229 28 [v0, some (.int x), v2] (.int x :: st) A Q := c_lcl i_229_27 rfl rfl
theorem q_229_28 : XX d 229 28 [some (.ref a), v1, v2] st A Q ↔ XX d 229 29 [some (.ref a), v1, v2] (.ref a :: st) A Q := c_lcl i_229_28 rfl rfl
theorem q_229_29 : XX d 229 29 [v0, v1, v2] (.ref a :: st) (mk S I L R G) Q ↔ S a = some (.inr 12) ∧ XX d 229 32 [v0, v1, v2] (.ref (a + 6579) :: st) (mk S I L R G) Q := r_gf i_229_29 rfl (by decide) rfl
theorem q_229_32 : XX d 229 32 [v0, v1, some (.int x)] st A Q ↔ XX d 229 33 [v0, v1, some (.int x)] (.int x :: st) A Q := c_lcl i_229_32 rfl rfl
theorem q_229_33 : XX d 229 33 [v0, v1, v2] (.int x :: .ref a :: st) (mk S I L R G) Q ↔ inA (S a) ok_i x ∧ XX d 229 34 [v0, v1, v2] (.int (I a (ix x)) :: st) (mk S I L R G) Q := r_ia i_229_33
theorem q_229_34 : XX d 229 34 [v0, v1, v2] st A Q ↔ XX d 229 35 [v0, v1, v2] (.int (w (-1)) :: st) A Q := c_stk i_229_34 rfl
theorem q_229_35 : XX d 229 35 [v0, v1, v2] (.int y :: .int x :: st) A Q ↔ if x = y then XX d 229 50 [v0, v1, v2] st A Q else XX d 229 38 [v0, v1, v2] st A Q := b_eq i_229_35 rfl rfl rfl
theorem q_229_38 : XX d 229 38 [some (.ref a), v1, v2] st A Q ↔ XX d 229 39 [some (.ref a), v1, v2] (.ref a :: st) A Q := c_lcl i_229_38 rfl rfl
theorem q_229_39 : XX d 229 39 [v0, v1, some (.int x)] st A Q ↔ XX d 229 40 [v0, v1, some (.int x)] (.int x :: st) A Q := c_lcl i_229_39 rfl rfl
theorem q_229_40 : XX (d + 1) 229 40 [v0, v1, v2] [.int x1, .ref a0, .int x2] (mk S I L R G) Q ↔ S a0 = some (.inr 12) ∧ XC d 198 [.ref a0, .int x1] (mk S I L R G) (XK (d + 1) 229 40 [v0, v1, v2] [.int x2] Q) := c_callV i_229_40 rfl rfl rfl rfl (Nat.le_of_ble_eq_true rfl) (Nat.le_of_ble_eq_true rfl) rfl
theorem q_229_43 : XX d 229 43 [v0, v1, v2] (.int x :: st) A Q ↔ if x = w 0 then XX d 229 50 [v0, v1, v2] st A Q else XX d 229 46 [v0, v1, v2] st A Q := z_eq i_229_43 rfl rfl rfl
theorem q_229_46 : XX d 229 46 [v0, v1, v2] st A Q ↔ XX d 229 47 [v0, v1, v2] (.int (w 1) :: st) A Q := c_stk i_229_46 rfl
theorem q_229_47 : XX d 229 47 [v0, v1, v2] st A Q ↔ XX d 229 51 [v0, v1, v2] st A Q := c_go i_229_47 rfl rfl
theorem q_229_50 : XX d 229 50 [v0, v1, v2] st A Q ↔ XX d 229 51 [v0, v1, v2] (.int (w 0) :: st) A Q := c_stk i_229_50 rfl
theorem q_229_51 : XX d 229 51 [v0, v1, v2] (.int y :: .int x :: st) A Q ↔ XX d 229 52 [v0, v1, v2] (.int (x + y) :: st) A Q := c_stk i_229_51 rfl
theorem q_229_52 : XX d 229 52 [some (.ref b), v1, v2] (.int x :: st) A Q ↔ XX d 229 53 [some (.ref b), some (.int x), v2] st A Q := c_lcl i_229_52 rfl rfl
theorem q_229_53 : XX d 229 53 [v0, some (.int z), some (.int x)] st A Q ↔ XX d 229 56 [v0, some (.int z), some (.int (x + w 1))] st A Q := c_lcl i_229_53 rfl rfl
theorem q_229_56 : XX d 229 56 [v0, v1, v2] st A Q ↔ XX d 229 19 [v0, v1, v2] st A Q := c_go i_229_56 rfl rfl
theorem q_229_59 : XX d 229 59 [v0, some (.int x), v2] st A Q ↔ XX d 229 60 [v0, some (.int x), v2] (.int x :: st) A Q := c_lcl i_229_59 rfl rfl
theorem q_229_60 : XX d 229 60 [v0, v1, v2] [.int x] A Q ↔ Q (.inl (some (.int x))) A := e_retI i_229_60 rfl
theorem q_229_e : XC d 229 [.ref a0] A Q ↔ XX d 229 0 [some (.ref a0), none, none] [] A Q := Iff.rfl
theorem i_230_0 : t_ins 230 0 = some (.aload_n 0) := by decide +kernel
theorem i_230_1 : t_ins 230 1 = some (.iconst 0) := by decide +kernel
theorem i_230_2 : t_ins 230 2 = some (.putfield 121) := by decide +kernel
theorem i_230_5 : t_ins 230 5 = some (.aload_n 0) := by decide +kernel
theorem i_230_6 : t_ins 230 6 = some (.iload_n 1) := by decide +kernel
theorem i_230_7 : t_ins 230 7 = some (.invokestatic 245) := by decide +kernel
theorem i_230_10 : t_ins 230 10 = some (.ifCond .ne 7) := by decide +kernel
theorem i_230_13 : t_ins 230 13 = some (.iconst 1) := by decide +kernel
theorem i_230_14 : t_ins 230 14 = some (.goto 4) := by decide +kernel
theorem i_230_17 : t_ins 230 17 = some (.iconst 0) := by decide +kernel
theorem i_230_18 : t_ins 230 18 = some (.iconst 1) := by decide +kernel
theorem i_230_19 : t_ins 230 19 = some (.iconst 0) := by decide +kernel
theorem i_230_20 : t_ins 230 20 = some (.invokevirtual 234) := by decide +kernel
theorem i_230_23 : t_ins 230 23 = some (.ifCond .ne 26) := by decide +kernel
theorem i_230_26 : t_ins 230 26 = some (.aload_n 0) := by decide +kernel
theorem i_230_27 : t_ins 230 27 = some (.iload_n 2) := by decide +kernel
theorem i_230_28 : t_ins 230 28 = some (.iconst 0) := by decide +kernel
theorem i_230_29 : t_ins 230 29 = some (.iconst 1) := by decide +kernel
theorem i_230_30 : t_ins 230 30 = some (.invokestatic 230) := by decide +kernel
theorem i_230_33 : t_ins 230 33 = some (.ifCond .ne 7) := by decide +kernel
theorem i_230_36 : t_ins 230 36 = some (.iconst 1) := by decide +kernel
theorem i_230_37 : t_ins 230 37 = some (.goto 4) := by decide +kernel
theorem i_230_40 : t_ins 230 40 = some (.iconst 0) := by decide +kernel
theorem i_230_41 : t_ins 230 41 = some (.iconst 2) := by decide +kernel
theorem i_230_42 : t_ins 230 42 = some (.iconst 1) := by decide +kernel
theorem i_230_43 : t_ins 230 43 = some (.invokevirtual 234) := by decide +kernel
theorem i_230_46 : t_ins 230 46 = some (.ifCond .eq 5) := by decide +kernel
theorem i_230_49 : t_ins 230 49 = some (.iconst 0) := by decide +kernel
theorem i_230_50 : t_ins 230 50 = some (.ireturn) := by decide +kernel
theorem i_230_51 : t_ins 230 51 = some (.aload_n 0) := by decide +kernel
theorem i_230_52 : t_ins 230 52 = some (.iload_n 1) := by decide +kernel
theorem i_230_53 : t_ins 230 53 = some (.invokevirtual 301) := by decide +kernel
theorem i_230_56 : t_ins 230 56 = some (.iconst (-1)) := by decide +kernel
theorem i_230_57 : t_ins 230 57 = some (.istore_n 3) := by decide +kernel
theorem i_230_58 : t_ins 230 58 = some (.iconst 0) := by decide +kernel
theorem i_230_59 : t_ins 230 59 = some (.istore 4) := by decide +kernel
theorem i_230_61 : t_ins 230 61 = some (.iload 4) := by decide +kernel
theorem i_230_63 : t_ins 230 63 = some (.aload_n 0) := by decide +kernel
theorem i_230_64 : t_ins 230 64 = some (.getfield 36) := by decide +kernel
theorem i_230_67 : t_ins 230 67 = some (.if_icmp .gt 70) := by decide +kernel
theorem i_230_70 : t_ins 230 70 = some (.aload_n 0) := by decide +kernel
theorem i_230_71 : t_ins 230 71 = some (.getfield 61) := by decide +kernel
theorem i_230_74 : t_ins 230 74 = some (.iload 4) := by decide +kernel
theorem i_230_76 : t_ins 230 76 = some (.iaload) := by decide +kernel
theorem i_230_77 : t_ins 230 77 = some (.iconst (-1)) := by decide +kernel
theorem i_230_78 : t_ins 230 78 = some (.if_icmp .ne 6) := by decide +kernel
theorem i_230_81 : t_ins 230 81 = some (.goto 50) := by decide +kernel
theorem i_230_84 : t_ins 230 84 = some (.iload_n 3) := by decide +kernel
theorem i_230_85 : t_ins 230 85 = some (.iconst (-1)) := by decide +kernel
theorem i_230_86 : t_ins 230 86 = some (.if_icmp .eq 42) := by decide +kernel
theorem i_230_89 : t_ins 230 89 = some (.iload_n 2) := by decide +kernel
theorem i_230_90 : t_ins 230 90 = some (.ifCond .ne 22) := by decide +kernel
theorem i_230_93 : t_ins 230 93 = some (.aload_n 0) := by decide +kernel
theorem i_230_94 : t_ins 230 94 = some (.getfield 61) := by decide +kernel
theorem i_230_97 : t_ins 230 97 = some (.iload 4) := by decide +kernel
theorem i_230_99 : t_ins 230 99 = some (.iaload) := by decide +kernel
theorem i_230_100 : t_ins 230 100 = some (.aload_n 0) := by decide +kernel
theorem i_230_101 : t_ins 230 101 = some (.getfield 61) := by decide +kernel
theorem i_230_104 : t_ins 230 104 = some (.iload_n 3) := by decide +kernel
theorem i_230_105 : t_ins 230 105 = some (.iaload) := by decide +kernel
theorem i_230_106 : t_ins 230 106 = some (.if_icmp .le 25) := by decide +kernel
theorem i_230_109 : t_ins 230 109 = some (.goto 19) := by decide +kernel
theorem i_230_112 : t_ins 230 112 = some (.aload_n 0) := by decide +kernel
theorem i_230_113 : t_ins 230 113 = some (.getfield 61) := by decide +kernel
theorem i_230_116 : t_ins 230 116 = some (.iload 4) := by decide +kernel
theorem i_230_118 : t_ins 230 118 = some (.iaload) := by decide +kernel
theorem i_230_119 : t_ins 230 119 = some (.aload_n 0) := by decide +kernel
theorem i_230_120 : t_ins 230 120 = some (.getfield 61) := by decide +kernel
theorem i_230_123 : t_ins 230 123 = some (.iload_n 3) := by decide +kernel
theorem i_230_124 : t_ins 230 124 = some (.iaload) := by decide +kernel
theorem i_230_125 : t_ins 230 125 = some (.if_icmp .ge 6) := by decide +kernel
theorem i_230_128 : t_ins 230 128 = some (.iload 4) := by decide +kernel
theorem i_230_130 : t_ins 230 130 = some (.istore_n 3) := by decide +kernel
theorem i_230_131 : t_ins 230 131 = some (.iinc 4 1) := by decide +kernel
theorem i_230_134 : t_ins 230 134 = some (.goto (-73)) := by decide +kernel
theorem i_230_137 : t_ins 230 137 = some (.iload_n 3) := by decide +kernel
theorem i_230_138 : t_ins 230 138 = some (.ireturn) := by decide +kernel
theorem q_230_0 : XX d 230 0 [some (.ref a), v1, v2, v3, v4] st A Q ↔ XX d 230 1 [some (.ref a), v1, v2, v3, v4] (.ref a :: st) A Q := c_lcl i_230_0 rfl rfl
theorem q_230_1 : XX d 230 1 [v0, v1, v2, v3, v4] st A Q ↔ XX d 230 2 [v0, v1, v2, v3, v4] (.int (w 0) :: st) A Q := c_stk i_230_1 rfl
theorem q_230_2 : XX d 230 2 [v0, v1, v2, v3, v4] (.int x :: .ref a :: st) (mk S I L R G) Q ↔ S a = some (.inr 12) ∧ XX d 230 5 [v0, v1, v2, v3, v4] st (mk S (wr I a (up (I a) 0 x)) L R G) Q := r_pf i_230_2 rfl (by decide) rfl rfl rfl
theorem q_230_5 : XX d 230 5 [some (.ref a), v1, v2, v3, v4] st A Q ↔ XX d 230 6 [some (.ref a), v1, v2, v3, v4] (.ref a :: st) A Q := c_lcl i_230_5 rfl rfl
theorem q_230_6 : XX d 230 6 [v0, some (.int x), v2, v3, v4] st A Q ↔ XX d 230 7 [v0, some (.int x), v2, v3, v4] (.int x :: st) A Q := c_lcl i_230_6 rfl rfl
theorem q_230_7 : XX (d + 1) 230 7 [v0, v1, v2, v3, v4] [.int x0, .ref a1] A Q ↔ XC d 182 [.int x0] A (XK (d + 1) 230 7 [v0, v1, v2, v3, v4] [.ref a1] Q) := c_callS i_230_7 rfl rfl rfl rfl (Nat.le_of_ble_eq_true rfl) (Nat.le_of_ble_eq_true rfl)
theorem q_230_10 : XX d 230 10 [v0, v1, v2, v3, v4] (.int x :: st) A Q ↔ if x = w 0 then XX d 230 13 [v0, v1, v2, v3, v4] st A Q else XX d 230 17 [v0, v1, v2, v3, v4] st A Q := z_ne i_230_10 rfl rfl rfl
theorem q_230_13 : XX d 230 13 [v0, v1, v2, v3, v4] st A Q ↔ XX d 230 14 [v0, v1, v2, v3, v4] (.int (w 1) :: st) A Q := c_stk i_230_13 rfl
theorem q_230_14 : XX d 230 14 [v0, v1, v2, v3, v4] st A Q ↔ XX d 230 18 [v0, v1, v2, v3, v4] st A Q := c_go i_230_14 rfl rfl
theorem q_230_17 : XX d 230 17 [v0, v1, v2, v3, v4] st A Q ↔ XX d 230 18 [v0, v1, v2, v3, v4] (.int (w 0) :: st) A Q := c_stk i_230_17 rfl
theorem q_230_18 : XX d 230 18 [v0, v1, v2, v3, v4] st A Q ↔ XX d 230 19 [v0, v1, v2, v3, v4] (.int (w 1) :: st) A Q := c_stk i_230_18 rfl
theorem q_230_19 : XX d 230 19 [v0, v1, v2, v3, v4] st A Q ↔ XX d 230 20 [v0, v1, v2, v3, v4] (.int (w 0) :: st) A Q := c_stk i_230_19 rfl
theorem q_230_20 : XX (d + 1) 230 20 [v0, v1, v2, v3, v4] [.int x3, .int x2, .int x1, .ref a0] (mk S I L R G) Q ↔ S a0 = some (.inr 12) ∧ XC d 154 [.ref a0, .int x1, .int x2, .int x3] (mk S I L R G) (XK (d + 1) 230 20 [v0, v1, v2, v3, v4] [] Q) := c_callV i_230_20 rfl rfl rfl rfl (Nat.le_of_ble_eq_true rfl) (Nat.le_of_ble_eq_true rfl) rfl
theorem q_230_23 : XX d 230 23 [v0, v1, v2, v3, v4] (.int x :: st) A Q ↔ if x = w 0 then XX d 230 26 [v0, v1, v2, v3, v4] st A Q else XX d 230 49 [v0, v1, v2, v3, v4] st A Q := z_ne i_230_23 rfl rfl rfl
theorem q_230_26 : XX d 230 26 [some (.ref a), v1, v2, v3, v4] st A Q ↔ XX d 230 27 [some (.ref a), v1, v2, v3, v4] (.ref a :: st) A Q := c_lcl i_230_26 rfl rfl
theorem q_230_27 : XX d 230 27 [v0, v1, some (.int x), v3, v4] st A Q ↔ XX d 230 28 [v0, v1, some (.int x), v3, v4] (.int x :: st) A Q := c_lcl i_230_27 rfl rfl
theorem q_230_28 : XX d 230 28 [v0, v1, v2, v3, v4] st A Q ↔ XX d 230 29 [v0, v1, v2, v3, v4] (.int (w 0) :: st) A Q := c_stk i_230_28 rfl
theorem q_230_29 : XX d 230 29 [v0, v1, v2, v3, v4] st A Q ↔ XX d 230 30 [v0, v1, v2, v3, v4] (.int (w 1) :: st) A Q := c_stk i_230_29 rfl
theorem q_230_30 : XX (d + 1) 230 30 [v0, v1, v2, v3, v4] [.int x2, .int x1, .int x0, .ref a3] A Q ↔ XC d 155 [.int x0, .int x1, .int x2] A (XK (d + 1) 230 30 [v0, v1, v2, v3, v4] [.ref a3] Q) := c_callS i_230_30 rfl rfl rfl rfl (Nat.le_of_ble_eq_true rfl) (Nat.le_of_ble_eq_true rfl)
theorem q_230_33 : XX d 230 33 [v0, v1, v2, v3, v4] (.int x :: st) A Q ↔ if x = w 0 then XX d 230 36 [v0, v1, v2, v3, v4] st A Q else XX d 230 40 [v0, v1, v2, v3, v4] st A Q := z_ne i_230_33 rfl rfl rfl
theorem q_230_36 : XX d 230 36 [v0, v1, v2, v3, v4] st A Q ↔ XX d 230 37 [v0, v1, v2, v3, v4] (.int (w 1) :: st) A Q := c_stk i_230_36 rfl
theorem q_230_37 : XX d 230 37 [v0, v1, v2, v3, v4] st A Q ↔ XX d 230 41 [v0, v1, v2, v3, v4] st A Q := c_go i_230_37 rfl rfl
theorem q_230_40 : XX d 230 40 [v0, v1, v2, v3, v4] st A Q ↔ XX d 230 41 [v0, v1, v2, v3, v4] (.int (w 0) :: st) A Q := c_stk i_230_40 rfl
theorem q_230_41 : XX d 230 41 [v0, v1, v2, v3, v4] st A Q ↔ XX d 230 42 [v0, v1, v2, v3, v4] (.int (w 2) :: st) A Q := c_stk i_230_41 rfl
theorem q_230_42 : XX d 230 42 [v0, v1, v2, v3, v4] st A Q ↔ XX d 230 43 [v0, v1, v2, v3, v4] (.int (w 1) :: st) A Q := c_stk i_230_42 rfl
theorem q_230_43 : XX (d + 1) 230 43 [v0, v1, v2, v3, v4] [.int x3, .int x2, .int x1, .ref a0] (mk S I L R G) Q ↔ S a0 = some (.inr 12) ∧ XC d 154 [.ref a0, .int x1, .int x2, .int x3] (mk S I L R G) (XK (d + 1) 230 43 [v0, v1, v2, v3, v4] [] Q) := c_callV i_230_43 rfl rfl rfl rfl (Nat.le_of_ble_eq_true rfl) (Nat.le_of_ble_eq_true rfl) rfl
theorem q_230_46 : XX d 230 46 [v0, v1, v2, v3, v4] (.int x :: st) A Q ↔ if x = w 0 then XX d 230 51 [v0, v1, v2, v3, v4] st A Q else XX d 230 49 [v0, v1, v2, v3, v4] st A Q := z_eq i_230_46 rfl rfl rfl
theorem q_230_49 : XX d 230 49 [v0, v1, v2, v3, v4] st A Q ↔ XX d 230 50 [v0, v1, v2, v3, v4] (.int (w 0) :: st) A Q := c_stk i_230_49 rfl
theorem q_230_50 : XX d 230 50 [v0, v1, v2, v3, v4] [.int x] A Q ↔ Q (.inl (some (.int x))) A := e_retI i_230_50 rfl
theorem q_230_51 : XX d 230 51 [some (.ref a), v1, v2, v3, v4] st A Q ↔ XX d 230 52 [some (.ref a), v1, v2, v3, v4] (.ref a :: st) A Q := c_lcl i_230_51 rfl rfl
theorem q_230_52 : XX d 230 52 [v0, some (.int x), v2, v3, v4] st A Q ↔ XX d 230 53 [v0, some (.int x), v2, v3, v4] (.int x :: st) A Q := c_lcl i_230_52 rfl rfl
theorem q_230_53 : XX (d + 1) 230 53 [v0, v1, v2, v3, v4] [.int x1, .ref a0] (mk S I L R G) Q ↔ S a0 = some (.inr 12) ∧ XC d 194 [.ref a0, .int x1] (mk S I L R G) (XK (d + 1) 230 53 [v0, v1, v2, v3, v4] [] Q) := c_callV i_230_53 rfl rfl rfl rfl (Nat.le_of_ble_eq_true rfl) (Nat.le_of_ble_eq_true rfl) rfl
theorem q_230_56 : XX d 230 56 [v0, v1, v2, v3, v4] st A Q ↔ XX d 230 57 [v0, v1, v2, v3, v4] (.int (w (-1)) :: st) A Q := c_stk i_230_56 rfl
theorem q_230_57 : XX d 230 57 [v0, v1, some (.int z), v3, v4] (.int x :: st) A Q ↔ XX d 230 58 [v0, v1, some (.int z), some (.int x), v4] st A Q := c_lcl i_230_57 rfl rfl
theorem q_230_58 : XX d 230 58 [v0, v1, v2, v3, v4] st A Q ↔ XX d 230 59 [v0, v1, v2, v3, v4] (.int (w 0) :: st) A Q := c_stk i_230_58 rfl
theorem q_230_59 : XX d 230 59 [v0, v1, v2, some (.int z), v4] (.int x :: st) A Q ↔ XX d 230 61 [v0, v1, v2, some (.int z), some (.int x)] st A Q := c_lcl i_230_59 rfl rfl
theorem q_230_61 : XX d 230 61 [v0, v1, v2, v3, some (.int x)] st A Q ↔ XX d 230 63 [v0, v1, v2, v3, some (.int x)] (.int x :: st) A Q := c_lcl i_230_61 rfl rfl
theorem q_230_63 : XX d 230 63 [some (.ref a), v1, v2, v3, v4] st A Q ↔ XX d 230 64 [some (.ref a), v1, v2, v3, v4] (.ref a :: st) A Q := c_lcl i_230_63 rfl rfl
theorem q_230_64 : XX d 230 64 [v0, v1, v2, v3, v4] (.ref a :: st) (mk S I L R G) Q ↔ S a = some (.inr 12) ∧ XX d 230 67 [v0, v1, v2, v3, v4] (.int (I a 13) :: st) (mk S I L R G) Q := r_gf i_230_64 rfl (by decide) rfl
theorem q_230_67 : XX d 230 67 [v0, v1, v2, v3, v4] (.int y :: .int x :: st) A Q ↔ if y < x then XX d 230 137 [v0, v1, v2, v3, v4] st A Q else XX d 230 70 [v0, v1, v2, v3, v4] st A Q := b_gt i_230_67 rfl rfl rfl
theorem q_230_70 : XX d 230 70 [some (.ref a), v1, v2, v3, v4] st A Q ↔ XX d 230 71 [some (.ref a), v1, v2, v3, v4] (.ref a :: st) A Q := c_lcl i_230_70 rfl rfl
theorem q_230_71 : XX d 230 71 [v0, v1, v2, v3, v4] (.ref a :: st) (mk S I L R G) Q ↔ S a = some (.inr 12) ∧ XX d 230 74 [v0, v1, v2, v3, v4] (.ref (a + 6579) :: st) (mk S I L R G) Q := r_gf i_230_71 rfl (by decide) rfl
theorem q_230_74 : XX d 230 74 [v0, v1, v2, v3, some (.int x)] st A Q ↔ XX d 230 76 [v0, v1, v2, v3, some (.int x)] (.int x :: st) A Q := c_lcl i_230_74 rfl rfl
theorem q_230_76 : XX d 230 76 [v0, v1, v2, v3, v4] (.int x :: .ref a :: st) (mk S I L R G) Q ↔ inA (S a) ok_i x ∧ XX d 230 77 [v0, v1, v2, v3, v4] (.int (I a (ix x)) :: st) (mk S I L R G) Q := r_ia i_230_76
theorem q_230_77 : XX d 230 77 [v0, v1, v2, v3, v4] st A Q ↔ XX d 230 78 [v0, v1, v2, v3, v4] (.int (w (-1)) :: st) A Q := c_stk i_230_77 rfl
theorem q_230_78 : XX d 230 78 [v0, v1, v2, v3, v4] (.int y :: .int x :: st) A Q ↔ if x = y then XX d 230 81 [v0, v1, v2, v3, v4] st A Q else XX d 230 84 [v0, v1, v2, v3, v4] st A Q := b_ne i_230_78 rfl rfl rfl
theorem q_230_81 : XX d 230 81 [v0, v1, v2, v3, v4] st A Q ↔ XX d 230 131 [v0, v1, v2, v3, v4] st A Q := c_go i_230_81 rfl rfl
theorem q_230_84 : XX d 230 84 [v0, v1, v2, some (.int x), v4] st A Q ↔ XX d 230 85 [v0, v1, v2, some (.int x), v4] (.int x :: st) A Q := c_lcl i_230_84 rfl rfl
theorem q_230_85 : XX d 230 85 [v0, v1, v2, v3, v4] st A Q ↔ XX d 230 86 [v0, v1, v2, v3, v4] (.int (w (-1)) :: st) A Q := c_stk i_230_85 rfl
theorem q_230_86 : XX d 230 86 [v0, v1, v2, v3, v4] (.int y :: .int x :: st) A Q ↔ if x = y then XX d 230 128 [v0, v1, v2, v3, v4] st A Q else XX d 230 89 [v0, v1, v2, v3, v4] st A Q := b_eq i_230_86 rfl rfl rfl
theorem q_230_89 : XX d 230 89 [v0, v1, some (.int x), v3, v4] st A Q ↔ XX d 230 90 [v0, v1, some (.int x), v3, v4] (.int x :: st) A Q := c_lcl i_230_89 rfl rfl
theorem q_230_90 : XX d 230 90 [v0, v1, v2, v3, v4] (.int x :: st) A Q ↔ if x = w 0 then XX d 230 93 [v0, v1, v2, v3, v4] st A Q else XX d 230 112 [v0, v1, v2, v3, v4] st A Q := z_ne i_230_90 rfl rfl rfl
theorem q_230_93 : XX d 230 93 [some (.ref a), v1, v2, v3, v4] st A Q ↔ XX d 230 94 [some (.ref a), v1, v2, v3, v4] (.ref a :: st) A Q := c_lcl i_230_93 rfl rfl
theorem q_230_94 : XX d 230 94 [v0, v1, v2, v3, v4] (.ref a :: st) (mk S I L R G) Q ↔ S a = some (.inr 12) ∧ XX d 230 97 [v0, v1, v2, v3, v4] (.ref (a + 6579) :: st) (mk S I L R G) Q := r_gf i_230_94 rfl (by decide) rfl
theorem q_230_97 : XX d 230 97 [v0, v1, v2, v3, some (.int x)] st A Q ↔ XX d 230 99 [v0, v1, v2, v3, some (.int x)] (.int x :: st) A Q := c_lcl i_230_97 rfl rfl
theorem q_230_99 : XX d 230 99 [v0, v1, v2, v3, v4] (.int x :: .ref a :: st) (mk S I L R G) Q ↔ inA (S a) ok_i x ∧ XX d 230 100 [v0, v1, v2, v3, v4] (.int (I a (ix x)) :: st) (mk S I L R G) Q := r_ia i_230_99
theorem q_230_100 : XX d 230 100 [some (.ref a), v1, v2, v3, v4] st A Q ↔ XX d 230 101 [some (.ref a), v1, v2, v3, v4] (.ref a :: st) A Q := c_lcl i_230_100 rfl rfl
theorem q_230_101 : XX d 230 101 [v0, v1, v2, v3, v4] (.ref a :: st) (mk S I L R G) Q ↔ S a = some (.inr 12) ∧ XX d 230 104 [v0, v1, v2, v3, v4] (.ref (a + 6579) :: st) (mk S I L R G) Q := r_gf i_230_101 rfl (by decide) rfl
theorem q_230_104 : XX d 230 104 [v0, v1, v2, some (.int x), v4] st A Q ↔ XX d 230 105 [v0, v1, v2, some (.int x), v4] (.int x :: st) A Q := c_lcl i_230_104 rfl rfl
theorem q_230_105 : XX d 230 105 [v0, v1, v2, v3, v4] (.int x :: .ref a :: st) (mk S I L R G) Q ↔ inA (S a) ok_i x ∧ XX d 230 106 [v0, v1, v2, v3, v4] (.int (I a (ix x)) :: st) (mk S I L R G) Q := r_ia i_230_105
theorem q_230_106 : XX d 230 106 [v0, v1, v2, v3, v4] (.int y :: .int x :: st) A Q ↔ if y < x then XX d 230 109 [v0, v1, v2, v3, v4] st A Q else XX d 230 131 [v0, v1, v2, v3, v4] st A Q := b_le i_230_106 rfl rfl rfl
theorem q_230_109 : XX d 230 109 [v0, v1, v2, v3, v4] st A Q ↔ XX d 230 128 [v0, v1, v2, v3, v4] st A Q := c_go i_230_109 rfl rfl
theorem q_230_112 : XX d 230 112 [some (.ref a), v1, v2, v3, v4] st A Q ↔ XX d 230 113 [some (.ref a), v1, v2, v3, v4] (.ref a :: st) A Q := c_lcl i_230_112 rfl rfl
theorem q_230_113 : XX d 230 113 [v0, v1, v2, v3, v4] (.ref a :: st) (mk S I L R G) Q ↔ S a = some (.inr 12) ∧ XX d 230 116 [v0, v1, v2, v3, v4] (.ref (a + 6579) :: st) (mk S I L R G) Q := r_gf i_230_113 rfl (by decide) rfl
theorem q_230_116 : XX d 230 116 [v0, v1, v2, v3, some (.int x)] st A Q ↔ XX d 230 118 [v0, v1, v2, v3, some (.int x)] (.int x :: st) A Q := c_lcl i_230_116 rfl rfl
theorem q_230_118 : XX d 230 118 [v0, v1, v2, v3, v4] (.int x :: .ref a :: st) (mk S I L R G) Q ↔ inA (S a) ok_i x ∧ XX d 230 119 [v0, v1, v2, v3, v4] (.int (I a (ix x)) :: st) (mk S I L R G) Q := r_ia i_230_118
theorem q_230_119 : XX d 230 119 [some (.ref a), v1, v2, v3, v4] st A Q ↔ XX d 230 120 [some (.ref a), v1, v2, v3, v4] (.ref a :: st) A Q := c_lcl i_230_119 rfl rfl
theorem q_230_120 : XX d 230 120 [v0, v1, v2, v3, v4] (.ref a :: st) (mk S I L R G) Q ↔ S a = some (.inr 12) ∧ XX d 230 123 [v0, v1, v2, v3, v4] (.ref (a + 6579) :: st) (mk S I L R G) Q := r_gf i_230_120 rfl (by decide) rfl
theorem q_230_123 : XX d 230 123 [v0, v1, v2, some (.int x), v4] st A Q ↔ XX d 230 124 [v0, v1, v2, some (.int x), v4] (.int x :: st) A Q := c_lcl i_230_123 rfl rfl
theorem q_230_124 : XX d 230 124 [v0, v1, v2, v3, v4] (.int x :: .ref a :: st) (mk S I L R G) Q ↔ inA (S a) ok_i x ∧ XX d 230 125 [v0, v1, v2, v3, v4] (.int (I a (ix x)) :: st) (mk S I L R G) Q := r_ia i_230_124
theorem q_230_125 : XX d 230 125 [v0, v1, v2, v3, v4] (.int y :: .int x :: st) A Q ↔ if x < y then XX d 230 128 [v0, v1, v2, v3, v4] st A Q else XX d 230 131 [v0, v1, v2, v3, v4] st A Q := b_ge i_230_125 rfl rfl rfl
theorem q_230_128 : XX d 230 128 [v0, v1, v2, v3, some (.int x)] st A Q ↔ XX d 230 130 [v0, v1, v2, v3, some (.int x)] (.int x :: st) A Q := c_lcl i_230_128 rfl rfl
theorem q_230_130 : XX d 230 130 [v0, v1, some (.int z), v3, v4] (.int x :: st) A Q ↔ XX d 230 131 [v0, v1, some (.int z), some (.int x), v4] st A Q := c_lcl i_230_130 rfl rfl
theorem q_230_131 : XX d 230 131 [v0, v1, v2, some (.int z), some (.int x)] st A Q ↔ XX d 230 134 [v0, v1, v2, some (.int z), some (.int (x + w 1))] st A Q := c_lcl i_230_131 rfl rfl
theorem q_230_134 : XX d 230 134 [v0, v1, v2, v3, v4] st A Q ↔ XX d 230 61 [v0, v1, v2, v3, v4] st A Q := c_go i_230_134 rfl rfl
theorem q_230_137 : XX d 230 137 [v0, v1, v2, some (.int x), v4] st A Q ↔ XX d 230 138 [v0, v1, v2, some (.int x), v4] (.int x :: st) A Q := c_lcl i_230_137 rfl rfl
theorem q_230_138 : XX d 230 138 [v0, v1, v2, v3, v4] [.int x] A Q ↔ Q (.inl (some (.int x))) A := e_retI i_230_138 rfl
theorem q_230_e : XC d 230 [.ref a0, .int x1, .int x2] A Q ↔ XX d 230 0 [some (.ref a0), some (.int x1), some (.int x2), none, none] [] A Q := Iff.rfl
theorem i_231_0 : t_ins 231 0 = some (.aload_n 0) := by decide +kernel
theorem i_231_1 : t_ins 231 1 = some (.iconst 0) := by decide +kernel
theorem i_231_2 : t_ins 231 2 = some (.putfield 121) := by decide +kernel
theorem i_231_5 : t_ins 231 5 = some (.aload_n 0) := by decide +kernel
theorem i_231_6 : t_ins 231 6 = some (.iload_n 1) := by decide +kernel
theorem i_231_7 : t_ins 231 7 = some (.invokestatic 245) := by decide +kernel
theorem i_231_10 : t_ins 231 10 = some (.ifCond .ne 7) := by decide +kernel
theorem i_231_13 : t_ins 231 13 = some (.iconst 1) := by decide +kernel
theorem i_231_14 : t_ins 231 14 = some (.goto 4) := by decide +kernel
theorem i_231_17 : t_ins 231 17 = some (.iconst 0) := by decide +kernel
theorem i_231_18 : t_ins 231 18 = some (.iconst 1) := by decide +kernel
theorem i_231_19 : t_ins 231 19 = some (.iconst 0) := by decide +kernel
theorem i_231_20 : t_ins 231 20 = some (.invokevirtual 234) := by decide +kernel
theorem i_231_23 : t_ins 231 23 = some (.ifCond .ne 26) := by decide +kernel
theorem i_231_26 : t_ins 231 26 = some (.aload_n 0) := by decide +kernel
theorem i_231_27 : t_ins 231 27 = some (.iload_n 3) := by decide +kernel
theorem i_231_28 : t_ins 231 28 = some (.iconst 0) := by decide +kernel
theorem i_231_29 : t_ins 231 29 = some (.iconst 2) := by decide +kernel
theorem i_231_30 : t_ins 231 30 = some (.invokestatic 230) := by decide +kernel
theorem i_231_33 : t_ins 231 33 = some (.ifCond .ne 7) := by decide +kernel
theorem i_231_36 : t_ins 231 36 = some (.iconst 1) := by decide +kernel
theorem i_231_37 : t_ins 231 37 = some (.goto 4) := by decide +kernel
theorem i_231_40 : t_ins 231 40 = some (.iconst 0) := by decide +kernel
theorem i_231_41 : t_ins 231 41 = some (.iconst 2) := by decide +kernel
theorem i_231_42 : t_ins 231 42 = some (.iconst 1) := by decide +kernel
theorem i_231_43 : t_ins 231 43 = some (.invokevirtual 234) := by decide +kernel
theorem i_231_46 : t_ins 231 46 = some (.ifCond .eq 5) := by decide +kernel
theorem i_231_49 : t_ins 231 49 = some (.iconst 0) := by decide +kernel
theorem i_231_50 : t_ins 231 50 = some (.ireturn) := by decide +kernel
theorem i_231_51 : t_ins 231 51 = some (.iconst 0) := by decide +kernel
theorem i_231_52 : t_ins 231 52 = some (.istore 4) := by decide +kernel
theorem i_231_54 : t_ins 231 54 = some (.iload 4) := by decide +kernel
theorem i_231_56 : t_ins 231 56 = some (.bipush 100) := by decide +kernel
theorem i_231_58 : t_ins 231 58 = some (.if_icmp .gt 17) := by decide +kernel
theorem i_231_61 : t_ins 231 61 = some (.aload_n 0) := by decide +kernel
theorem i_231_62 : t_ins 231 62 = some (.getfield 104) := by decide +kernel
theorem i_231_65 : t_ins 231 65 = some (.iload 4) := by decide +kernel
theorem i_231_67 : t_ins 231 67 = some (.iconst 0) := by decide +kernel
theorem i_231_68 : t_ins 231 68 = some (.bastore) := by decide +kernel
theorem i_231_69 : t_ins 231 69 = some (.iinc 4 1) := by decide +kernel
theorem i_231_72 : t_ins 231 72 = some (.goto (-18)) := by decide +kernel
theorem i_231_75 : t_ins 231 75 = some (.iconst 0) := by decide +kernel
theorem i_231_76 : t_ins 231 76 = some (.istore 4) := by decide +kernel
theorem i_231_78 : t_ins 231 78 = some (.iconst (-1)) := by decide +kernel
theorem i_231_79 : t_ins 231 79 = some (.istore 5) := by decide +kernel
theorem i_231_81 : t_ins 231 81 = some (.iload_n 2) := by decide +kernel
theorem i_231_82 : t_ins 231 82 = some (.istore 6) := by decide +kernel
theorem i_231_84 : t_ins 231 84 = some (.aload_n 0) := by decide +kernel
theorem i_231_85 : t_ins 231 85 = some (.iload_n 1) := by decide +kernel
theorem i_231_86 : t_ins 231 86 = some (.iload 6) := by decide +kernel
theorem i_231_88 : t_ins 231 88 = some (.invokevirtual 292) := by decide +kernel
theorem i_231_91 : t_ins 231 91 = some (.ifCond .eq 101) := by decide +kernel
theorem i_231_94 : t_ins 231 94 = some (.iload 6) := by decide +kernel
theorem i_231_96 : t_ins 231 96 = some (.iconst 0) := by decide +kernel
theorem i_231_97 : t_ins 231 97 = some (.bipush 100) := by decide +kernel
theorem i_231_99 : t_ins 231 99 = some (.invokestatic 230) := by decide +kernel
theorem i_231_102 : t_ins 231 102 = some (.ifCond .eq 13) := by decide +kernel
theorem i_231_105 : t_ins 231 105 = some (.aload_n 0) := by decide +kernel
theorem i_231_106 : t_ins 231 106 = some (.getfield 104) := by decide +kernel
theorem i_231_109 : t_ins 231 109 = some (.iload 6) := by decide +kernel
theorem i_231_111 : t_ins 231 111 = some (.baload) := by decide +kernel
theorem i_231_112 : t_ins 231 112 = some (.ifCond .ne 14) := by decide +kernel
theorem i_231_115 : t_ins 231 115 = some (.iload 4) := by decide +kernel
theorem i_231_117 : t_ins 231 117 = some (.ifCond .le 31) := by decide +kernel
theorem i_231_120 : t_ins 231 120 = some (.iload 6) := by decide +kernel
theorem i_231_122 : t_ins 231 122 = some (.iload_n 2) := by decide +kernel
theorem i_231_123 : t_ins 231 123 = some (.if_icmp .ne 25) := by decide +kernel
theorem i_231_126 : t_ins 231 126 = some (.iload_n 3) := by decide +kernel
theorem i_231_127 : t_ins 231 127 = some (.ifCond .ne 8) := by decide +kernel
theorem i_231_130 : t_ins 231 130 = some (.iload 4) := by decide +kernel
theorem i_231_132 : t_ins 231 132 = some (.goto 15) := by decide +kernel
theorem i_231_135 : t_ins 231 135 = some (.iload_n 3) := by decide +kernel
theorem i_231_136 : t_ins 231 136 = some (.iconst 1) := by decide +kernel
theorem i_231_137 : t_ins 231 137 = some (.if_icmp .ne 8) := by decide +kernel
theorem i_231_140 : t_ins 231 140 = some (.iload 5) := by decide +kernel
theorem i_231_142 : t_ins 231 142 = some (.goto 5) := by decide +kernel
theorem i_231_145 : t_ins 231 145 = some (.iload 6) := by decide +kernel
theorem i_231_147 : t_ins 231 147 = some (.ireturn) := by decide +kernel
theorem i_231_148 : t_ins 231 148 = some (.iload 6) := by decide +kernel
theorem i_231_150 : t_ins 231 150 = some (.iconst 0) := by decide +kernel
theorem i_231_151 : t_ins 231 151 = some (.bipush 100) := by decide +kernel
theorem i_231_153 : t_ins 231 153 = some (.invokestatic 230) := by decide +kernel
theorem i_231_156 : t_ins 231 156 = some (.ifCond .eq 11) := by decide +kernel
theorem i_231_159 : t_ins 231 159 = some (.aload_n 0) := by decide +kernel
theorem i_231_160 : t_ins 231 160 = some (.getfield 104) := by decide +kernel
theorem i_231_163 : t_ins 231 163 = some (.iload 6) := by decide +kernel
theorem i_231_165 : t_ins 231 165 = some (.iconst 1) := by decide +kernel
theorem i_231_166 : t_ins 231 166 = some (.bastore) := by decide +kernel
theorem i_231_167 : t_ins 231 167 = some (.iinc 4 1) := by decide +kernel
theorem i_231_170 : t_ins 231 170 = some (.iload 6) := by decide +kernel
theorem i_231_172 : t_ins 231 172 = some (.istore 5) := by decide +kernel
theorem i_231_174 : t_ins 231 174 = some (.aload_n 0) := by decide +kernel
theorem i_231_175 : t_ins 231 175 = some (.aload_n 0) := by decide +kernel
theorem i_231_176 : t_ins 231 176 = some (.getfield 39) := by decide +kernel
theorem i_231_179 : t_ins 231 179 = some (.iconst 0) := by decide +kernel
theorem i_231_180 : t_ins 231 180 = some (.aload_n 0) := by decide +kernel
theorem i_231_181 : t_ins 231 181 = some (.getfield 281) := by decide +kernel
theorem i_231_184 : t_ins 231 184 = some (.invokevirtual 324) := by decide +kernel
theorem i_231_187 : t_ins 231 187 = some (.istore 6) := by decide +kernel
theorem i_231_189 : t_ins 231 189 = some (.goto (-105)) := by decide +kernel
theorem i_231_192 : t_ins 231 192 = some (.iload_n 3) := by decide +kernel
theorem i_231_193 : t_ins 231 193 = some (.ifCond .ne 8) := by decide +kernel
theorem i_231_196 : t_ins 231 196 = some (.iload 4) := by decide +kernel
theorem i_231_198 : t_ins 231 198 = some (.goto 14) := by decide +kernel
theorem i_231_201 : t_ins 231 201 = some (.iload_n 3) := by decide +kernel
theorem i_231_202 : t_ins 231 202 = some (.iconst 1) := by decide +kernel
theorem i_231_203 : t_ins 231 203 = some (.if_icmp .ne 8) := by decide +kernel
theorem i_231_206 : t_ins 231 206 = some (.iload 5) := by decide +kernel
theorem i_231_208 : t_ins 231 208 = some (.goto 4) := by decide +kernel
theorem i_231_211 : t_ins 231 211 = some (.iconst (-1)) := by decide +kernel
theorem i_231_212 : t_ins 231 212 = some (.ireturn) := by decide +kernel
theorem q_231_0 : XX d 231 0 [some (.ref a), v1, v2, v3, v4, v5, v6] st A Q ↔ XX d 231 1 [some (.ref a), v1, v2, v3, v4, v5, v6] (.ref a :: st) A Q := c_lcl i_231_0 rfl rfl
theorem q_231_1 : XX d 231 1 [v0, v1, v2, v3, v4, v5, v6] st A Q ↔ XX d 231 2 [v0, v1, v2, v3, v4, v5, v6] (.int (w 0) :: st) A Q := c_stk i_231_1 rfl
theorem q_231_2 : XX d 231 2 [v0, v1, v2, v3, v4, v5, v6] (.int x :: .ref a :: st) (mk S I L R G) Q ↔ S a = some (.inr 12) ∧ XX d 231 5 [v0, v1, v2, v3, v4, v5, v6] st (mk S (wr I a (up (I a) 0 x)) L R G) Q := r_pf i_231_2 rfl (by decide) rfl rfl rfl
theorem q_231_5 : XX d 231 5 [some (.ref a), v1, v2, v3, v4, v5, v6] st A Q ↔ XX d 231 6 [some (.ref a), v1, v2, v3, v4, v5, v6] (.ref a :: st) A Q := c_lcl i_231_5 rfl rfl
theorem q_231_6 : XX d 231 6 [v0, some (.int x), v2, v3, v4, v5, v6] st A Q ↔ XX d 231 7 [v0, some (.int x), v2, v3, v4, v5, v6] (.int x :: st) A Q := c_lcl i_231_6 rfl rfl
theorem q_231_7 : XX (d + 1) 231 7 [v0, v1, v2, v3, v4, v5, v6] [.int x0, .ref a1] A Q ↔ XC d 182 [.int x0] A (XK (d + 1) 231 7 [v0, v1, v2, v3, v4, v5, v6] [.ref a1] Q) := c_callS i_231_7 rfl rfl rfl rfl (Nat.le_of_ble_eq_true rfl) (Nat.le_of_ble_eq_true rfl)
theorem q_231_10 : XX d 231 10 [v0, v1, v2, v3, v4, v5, v6] (.int x :: st) A Q ↔ if x = w 0 then XX d 231 13 [v0, v1, v2, v3, v4, v5, v6] st A Q else XX d 231 17 [v0, v1, v2, v3, v4, v5, v6] st A Q := z_ne i_231_10 rfl rfl rfl
theorem q_231_13 : XX d 231 13 [v0, v1, v2, v3, v4, v5, v6] st A Q ↔ XX d 231 14 [v0, v1, v2, v3, v4, v5, v6] (.int (w 1) :: st) A Q := c_stk i_231_13 rfl
theorem q_231_14 : XX d 231 14 [v0, v1, v2, v3, v4, v5, v6] st A Q ↔ XX d 231 18 [v0, v1, v2, v3, v4, v5, v6] st A Q := c_go i_231_14 rfl rfl
theorem q_231_17 : XX d 231 17 [v0, v1, v2, v3, v4, v5, v6] st A Q ↔ XX d 231 18 [v0, v1, v2, v3, v4, v5, v6] (.int (w 0) :: st) A Q := c_stk i_231_17 rfl
theorem q_231_18 : XX d 231 18 [v0, v1, v2, v3, v4, v5, v6] st A Q ↔ XX d 231 19 [v0, v1, v2, v3, v4, v5, v6] (.int (w 1) :: st) A Q := c_stk i_231_18 rfl
theorem q_231_19 : XX d 231 19 [v0, v1, v2, v3, v4, v5, v6] st A Q ↔ XX d 231 20 [v0, v1, v2, v3, v4, v5, v6] (.int (w 0) :: st) A Q := c_stk i_231_19 rfl
theorem q_231_20 : XX (d + 1) 231 20 [v0, v1, v2, v3, v4, v5, v6] [.int x3, .int x2, .int x1, .ref a0] (mk S I L R G) Q ↔ S a0 = some (.inr 12) ∧ XC d 154 [.ref a0, .int x1, .int x2, .int x3] (mk S I L R G) (XK (d + 1) 231 20 [v0, v1, v2, v3, v4, v5, v6] [] Q) := c_callV i_231_20 rfl rfl rfl rfl (Nat.le_of_ble_eq_true rfl) (Nat.le_of_ble_eq_true rfl) rfl
theorem q_231_23 : XX d 231 23 [v0, v1, v2, v3, v4, v5, v6] (.int x :: st) A Q ↔ if x = w 0 then XX d 231 26 [v0, v1, v2, v3, v4, v5, v6] st A Q else XX d 231 49 [v0, v1, v2, v3, v4, v5, v6] st A Q := z_ne i_231_23 rfl rfl rfl
theorem q_231_26 : XX d 231 26 [some (.ref a), v1, v2, v3, v4, v5, v6] st A Q ↔ XX d 231 27 [some (.ref a), v1, v2, v3, v4, v5, v6] (.ref a :: st) A Q := c_lcl i_231_26 rfl rfl
theorem q_231_27 : XX d 231 27 [v0, v1, v2, some (.int x), v4, v5, v6] st A Q ↔ XX d 231 28 [v0, v1, v2, some (.int x), v4, v5, v6] (.int x :: st) A Q := c_lcl i_231_27 rfl rfl
theorem q_231_28 : XX d 231 28 [v0, v1, v2, v3, v4, v5, v6] st A Q ↔ XX d 231 29 [v0, v1, v2, v3, v4, v5, v6] (.int (w 0) :: st) A Q := c_stk i_231_28 rfl
theorem q_231_29 : XX d 231 29 [v0, v1, v2, v3, v4, v5, v6] st A Q ↔ XX d 231 30 [v0, v1, v2, v3, v4, v5, v6] (.int (w 2) :: st) A Q := c_stk i_231_29 rfl
theorem q_231_30 : XX (d + 1) 231 30 [v0, v1, v2, v3, v4, v5, v6] [.int x2, .int x1, .int x0, .ref a3] A Q ↔ XC d 155 [.int x0, .int x1, .int x2] A (XK (d + 1) 231 30 [v0, v1, v2, v3, v4, v5, v6] [.ref a3] Q) := c_callS i_231_30 rfl rfl rfl rfl (Nat.le_of_ble_eq_true rfl) (Nat.le_of_ble_eq_true rfl)
theorem q_231_33 : XX d 231 33 [v0, v1, v2, v3, v4, v5, v6] (.int x :: st) A Q ↔ if x = w 0 then XX d 231 36 [v0, v1, v2, v3, v4, v5, v6] st A Q else XX d 231 40 [v0, v1, v2, v3, v4, v5, v6] st A Q := z_ne i_231_33 rfl rfl rfl
theorem q_231_36 : XX d 231 36 [v0, v1, v2, v3, v4, v5, v6] st A Q ↔ XX d 231 37 [v0, v1, v2, v3, v4, v5, v6] (.int (w 1) :: st) A Q := c_stk i_231_36 rfl
theorem q_231_37 : XX d 231 37 [v0, v1, v2, v3, v4, v5, v6] st A Q ↔ XX d 231 41 [v0, v1, v2, v3, v4, v5, v6] st A Q := c_go i_231_37 rfl rfl
theorem q_231_40 : XX d 231 40 [v0, v1, v2, v3, v4, v5, v6] st A Q ↔ XX d 231 41 [v0, v1, v2, v3, v4, v5, v6] (.int (w 0) :: st) A Q := c_stk i_231_40 rfl
theorem q_231_41 : XX d 231 41 [v0, v1, v2, v3, v4, v5, v6] st A Q ↔ XX d 231 42 [v0, v1, v2, v3, v4, v5, v6] (.int (w 2) :: st) A Q := c_stk i_231_41 rfl
theorem q_231_42 : XX d 231 42 [v0, v1, v2, v3, v4, v5, v6] st A Q ↔ XX d 231 43 [v0, v1, v2, v3, v4, v5, v6] (.int (w 1) :: st) A Q := c_stk i_231_42 rfl
theorem q_231_43 : XX (d + 1) 231 43 [v0, v1, v2, v3, v4, v5, v6] [.int x3, .int x2, .int x1, .ref a0] (mk S I L R G) Q ↔ S a0 = some (.inr 12) ∧ XC d 154 [.ref a0, .int x1, .int x2, .int x3] (mk S I L R G) (XK (d + 1) 231 43 [v0, v1, v2, v3, v4, v5, v6] [] Q) := c_callV i_231_43 rfl rfl rfl rfl (Nat.le_of_ble_eq_true rfl) (Nat.le_of_ble_eq_true rfl) rfl
theorem q_231_46 : XX d 231 46 [v0, v1, v2, v3, v4, v5, v6] (.int x :: st) A Q ↔ if x = w 0 then XX d 231 51 [v0, v1, v2, v3, v4, v5, v6] st A Q else XX d 231 49 [v0, v1, v2, v3, v4, v5, v6] st A Q := z_eq i_231_46 rfl rfl rfl
theorem q_231_49 : XX d 231 49 [v0, v1, v2, v3, v4, v5, v6] st A Q ↔ XX d 231 50 [v0, v1, v2, v3, v4, v5, v6] (.int (w 0) :: st) A Q := c_stk i_231_49 rfl
theorem q_231_50 : XX d 231 50 [v0, v1, v2, v3, v4, v5, v6] [.int x] A Q ↔ Q (.inl (some (.int x))) A := e_retI i_231_50 rfl
theorem q_231_51 : XX d 231 51 [v0, v1, v2, v3, v4, v5, v6] st A Q ↔ XX d 231 52 [v0, v1, v2, v3, v4, v5, v6] (.int (w 0) :: st) A Q := c_stk i_231_51 rfl
theorem q_231_52 : XX d 231 52 [v0, v1, v2, some (.int z), v4, v5, v6] (.int x :: st) A Q ↔ XX d 231 54 [v0, v1, v2, some (.int z), some (.int x), v5, v6] st A Q := c_lcl i_231_52 rfl rfl
theorem q_231_54 : XX d 231 54 [v0, v1, v2, v3, some (.int x), v5, v6] st A Q ↔ XX d 231 56 [v0, v1, v2, v3, some (.int x), v5, v6] (.int x :: st) A Q := c_lcl i_231_54 rfl rfl
theorem q_231_56 : XX d 231 56 [v0, v1, v2, v3, v4, v5, v6] st A Q ↔ XX d 231 58 [v0, v1, v2, v3, v4, v5, v6] (.int (w 100) :: st) A Q := c_stk i_231_56 rfl
theorem q_231_58 : XX d 231 58 [v0, v1, v2, v3, v4, v5, v6] (.int y :: .int x :: st) A Q ↔ if y < x then XX d 231 75 [v0, v1, v2, v3, v4, v5, v6] st A Q else XX d 231 61 [v0, v1, v2, v3, v4, v5, v6] st A Q := b_gt i_231_58 rfl rfl rfl
theorem q_231_61 : XX d 231 61 [some (.ref a), v1, v2, v3, v4, v5, v6] st A Q ↔ XX d 231 62 [some (.ref a), v1, v2, v3, v4, v5, v6] (.ref a :: st) A Q := c_lcl i_231_61 rfl rfl
theorem q_231_62 : XX d 231 62 [v0, v1, v2, v3, v4, v5, v6] (.ref a :: st) (mk S I L R G) Q ↔ S a = some (.inr 12) ∧ XX d 231 65 [v0, v1, v2, v3, v4, v5, v6] (.ref (a + 6673) :: st) (mk S I L R G) Q := r_gf i_231_62 rfl (by decide) rfl
theorem q_231_65 : XX d 231 65 [v0, v1, v2, v3, some (.int x), v5, v6] st A Q ↔ XX d 231 67 [v0, v1, v2, v3, some (.int x), v5, v6] (.int x :: st) A Q := c_lcl i_231_65 rfl rfl
theorem q_231_67 : XX d 231 67 [v0, v1, v2, v3, v4, v5, v6] st A Q ↔ XX d 231 68 [v0, v1, v2, v3, v4, v5, v6] (.int (w 0) :: st) A Q := c_stk i_231_67 rfl
theorem q_231_68 : XX d 231 68 [v0, v1, v2, v3, v4, v5, v6] (.int y :: .int x :: .ref a :: st) (mk S I L R G) Q ↔ bsP (S a) x y (fun y => XX d 231 69 [v0, v1, v2, v3, v4, v5, v6] st (mk S (wr I a (up (I a) (ix x) y)) L R G) Q) := r_bas i_231_68
theorem q_231_69 : XX d 231 69 [v0, v1, v2, some (.int z), some (.int x), v5, v6] st A Q ↔ XX d 231 72 [v0, v1, v2, some (.int z), some (.int (x + w 1)), v5, v6] st A Q := c_lcl i_231_69 rfl rfl
theorem q_231_72 : XX d 231 72 [v0, v1, v2, v3, v4, v5, v6] st A Q ↔ XX d 231 54 [v0, v1, v2, v3, v4, v5, v6] st A Q := c_go i_231_72 rfl rfl
theorem q_231_75 : XX d 231 75 [v0, v1, v2, v3, v4, v5, v6] st A Q ↔ XX d 231 76 [v0, v1, v2, v3, v4, v5, v6] (.int (w 0) :: st) A Q := c_stk i_231_75 rfl
theorem q_231_76 : XX d 231 76 [v0, v1, v2, some (.int z), v4, v5, v6] (.int x :: st) A Q ↔ XX d 231 78 [v0, v1, v2, some (.int z), some (.int x), v5, v6] st A Q := c_lcl i_231_76 rfl rfl
theorem q_231_78 : XX d 231 78 [v0, v1, v2, v3, v4, v5, v6] st A Q ↔ XX d 231 79 [v0, v1, v2, v3, v4, v5, v6] (.int (w (-1)) :: st) A Q := c_stk i_231_78 rfl
theorem q_231_79 : XX d 231 79 [v0, v1, v2, v3, some (.int z), v5, v6] (.int x :: st) A Q ↔ XX d 231 81 [v0, v1, v2, v3, some (.int z), some (.int x), v6] st A Q := c_lcl i_231_79 rfl rfl
theorem q_231_81 : XX d 231 81 [v0, v1, some (.int x), v3, v4, v5, v6] st A Q ↔ XX d 231 82 [v0, v1, some (.int x), v3, v4, v5, v6] (.int x :: st) A Q := c_lcl i_231_81 rfl rfl
theorem q_231_82 : XX d 231 82 [v0, v1, v2, v3, v4, some (.int z), v6] (.int x :: st) A Q ↔ XX d 231 84 [v0, v1, v2, v3, v4, some (.int z), some (.int x)] st A Q := c_lcl i_231_82 rfl rfl
theorem q_231_84 : XX d 231 84 [some (.ref a), v1, v2, v3, v4, v5, v6] st A Q ↔ XX d 231 85 [some (.ref a), v1, v2, v3, v4, v5, v6] (.ref a :: st) A Q := c_lcl i_231_84 rfl rfl
theorem q_231_85 : XX d 231 85 [v0, some (.int x), v2, v3, v4, v5, v6] st A Q ↔ XX d 231 86 [v0, some (.int x), v2, v3, v4, v5, v6] (.int x :: st) A Q := c_lcl i_231_85 rfl rfl
theorem q_231_86 : XX d 231 86 [v0, v1, v2, v3, v4, v5, some (.int x)] st A Q ↔ XX d 231 88 [v0, v1, v2, v3, v4, v5, some (.int x)] (.int x :: st) A Q := c_lcl i_231_86 rfl rfl
theorem q_231_88 : XX (d + 1) 231 88 [v0, v1, v2, v3, v4, v5, v6] [.int x2, .int x1, .ref a0] (mk S I L R G) Q ↔ S a0 = some (.inr 12) ∧ XC d 193 [.ref a0, .int x1, .int x2] (mk S I L R G) (XK (d + 1) 231 88 [v0, v1, v2, v3, v4, v5, v6] [] Q) := c_callV i_231_88 rfl rfl rfl rfl (Nat.le_of_ble_eq_true rfl) (Nat.le_of_ble_eq_true rfl) rfl
theorem q_231_91 : XX d 231 91 [v0, v1, v2, v3, v4, v5, v6] (.int x :: st) A Q ↔ if x = w 0 then XX d 231 192 [v0, v1, v2, v3, v4, v5, v6] st A Q else XX d 231 94 [v0, v1, v2, v3, v4, v5, v6] st A Q := z_eq i_231_91 rfl rfl rfl
theorem q_231_94 : XX d 231 94 [v0, v1, v2, v3, v4, v5, some (.int x)] st A Q ↔ XX d 231 96 [v0, v1, v2, v3, v4, v5, some (.int x)] (.int x :: st) A Q := c_lcl i_231_94 rfl rfl
theorem q_231_96 : XX d 231 96 [v0, v1, v2, v3, v4, v5, v6] st A Q ↔ XX d 231 97 [v0, v1, v2, v3, v4, v5, v6] (.int (w 0) :: st) A Q := c_stk i_231_96 rfl
theorem q_231_97 : XX d 231 97 [v0, v1, v2, v3, v4, v5, v6] st A Q ↔ XX d 231 99 [v0, v1, v2, v3, v4, v5, v6] (.int (w 100) :: st) A Q := c_stk i_231_97 rfl
theorem q_231_99 : XX (d + 1) 231 99 [v0, v1, v2, v3, v4, v5, v6] [.int x2, .int x1, .int x0] A Q ↔ XC d 155 [.int x0, .int x1, .int x2] A (XK (d + 1) 231 99 [v0, v1, v2, v3, v4, v5, v6] [] Q) := c_callS i_231_99 rfl rfl rfl rfl (Nat.le_of_ble_eq_true rfl) (Nat.le_of_ble_eq_true rfl)
theorem q_231_102 : XX d 231 102 [v0, v1, v2, v3, v4, v5, v6] (.int x :: st) A Q ↔ if x = w 0 then XX d 231 115 [v0, v1, v2, v3, v4, v5, v6] st A Q else XX d 231 105 [v0, v1, v2, v3, v4, v5, v6] st A Q := z_eq i_231_102 rfl rfl rfl
theorem q_231_105 : XX d 231 105 [some (.ref a), v1, v2, v3, v4, v5, v6] st A Q ↔ XX d 231 106 [some (.ref a), v1, v2, v3, v4, v5, v6] (.ref a :: st) A Q := c_lcl i_231_105 rfl rfl
theorem q_231_106 : XX d 231 106 [v0, v1, v2, v3, v4, v5, v6] (.ref a :: st) (mk S I L R G) Q ↔ S a = some (.inr 12) ∧ XX d 231 109 [v0, v1, v2, v3, v4, v5, v6] (.ref (a + 6673) :: st) (mk S I L R G) Q := r_gf i_231_106 rfl (by decide) rfl
theorem q_231_109 : XX d 231 109 [v0, v1, v2, v3, v4, v5, some (.int x)] st A Q ↔ XX d 231 111 [v0, v1, v2, v3, v4, v5, some (.int x)] (.int x :: st) A Q := c_lcl i_231_109 rfl rfl
theorem q_231_111 : XX d 231 111 [v0, v1, v2, v3, v4, v5, v6] (.int x :: .ref a :: st) (mk S I L R G) Q ↔ inA (S a) ok_b x ∧ XX d 231 112 [v0, v1, v2, v3, v4, v5, v6] (.int (I a (ix x)) :: st) (mk S I L R G) Q := r_ba i_231_111
theorem q_231_112 : XX d 231 112 [v0, v1, v2, v3, v4, v5, v6] (.int x :: st) A Q ↔ if x = w 0 then XX d 231 115 [v0, v1, v2, v3, v4, v5, v6] st A Q else XX d 231 126 [v0, v1, v2, v3, v4, v5, v6] st A Q := z_ne i_231_112 rfl rfl rfl
theorem q_231_115 : XX d 231 115 [v0, v1, v2, v3, some (.int x), v5, v6] st A Q ↔ XX d 231 117 [v0, v1, v2, v3, some (.int x), v5, v6] (.int x :: st) A Q := c_lcl i_231_115 rfl rfl
theorem q_231_117 : XX d 231 117 [v0, v1, v2, v3, v4, v5, v6] (.int x :: st) A Q ↔ if w 0 < x then XX d 231 120 [v0, v1, v2, v3, v4, v5, v6] st A Q else XX d 231 148 [v0, v1, v2, v3, v4, v5, v6] st A Q := z_le i_231_117 rfl rfl rfl
theorem q_231_120 : XX d 231 120 [v0, v1, v2, v3, v4, v5, some (.int x)] st A Q ↔ XX d 231 122 [v0, v1, v2, v3, v4, v5, some (.int x)] (.int x :: st) A Q := c_lcl i_231_120 rfl rfl
theorem q_231_122 : XX d 231 122 [v0, v1, some (.int x), v3, v4, v5, v6] st A Q ↔ XX d 231 123 [v0, v1, some (.int x), v3, v4, v5, v6] (.int x :: st) A Q := c_lcl i_231_122 rfl rfl
theorem q_231_123 : XX d 231 123 [v0, v1, v2, v3, v4, v5, v6] (.int y :: .int x :: st) A Q ↔ if x = y then XX d 231 126 [v0, v1, v2, v3, v4, v5, v6] st A Q else XX d 231 148 [v0, v1, v2, v3, v4, v5, v6] st A Q := b_ne i_231_123 rfl rfl rfl
theorem q_231_126 : XX d 231 126 [v0, v1, v2, some (.int x), v4, v5, v6] st A Q ↔ XX d 231 127 [v0, v1, v2, some (.int x), v4, v5, v6] (.int x :: st) A Q := c_lcl i_231_126 rfl rfl
theorem q_231_127 : XX d 231 127 [v0, v1, v2, v3, v4, v5, v6] (.int x :: st) A Q ↔ if x = w 0 then XX d 231 130 [v0, v1, v2, v3, v4, v5, v6] st A Q else XX d 231 135 [v0, v1, v2, v3, v4, v5, v6] st A Q := z_ne i_231_127 rfl rfl rfl
theorem q_231_130 : XX d 231 130 [v0, v1, v2, v3, some (.int x), v5, v6] st A Q ↔ XX d 231 132 [v0, v1, v2, v3, some (.int x), v5, v6] (.int x :: st) A Q := c_lcl i_231_130 rfl rfl
theorem q_231_132 : XX d 231 132 [v0, v1, v2, v3, v4, v5, v6] st A Q ↔ XX d 231 147 [v0, v1, v2, v3, v4, v5, v6] st A Q := c_go i_231_132 rfl rfl
theorem q_231_135 : XX d 231 135 [v0, v1, v2, some (.int x), v4, v5, v6] st A Q ↔ XX d 231 136 [v0, v1, v2, some (.int x), v4, v5, v6] (.int x :: st) A Q := c_lcl i_231_135 rfl rfl
theorem q_231_136 : XX d 231 136 [v0, v1, v2, v3, v4, v5, v6] st A Q ↔ XX d 231 137 [v0, v1, v2, v3, v4, v5, v6] (.int (w 1) :: st) A Q := c_stk i_231_136 rfl
theorem q_231_137 : XX d 231 137 [v0, v1, v2, v3, v4, v5, v6] (.int y :: .int x :: st) A Q ↔ if x = y then XX d 231 140 [v0, v1, v2, v3, v4, v5, v6] st A Q else XX d 231 145 [v0, v1, v2, v3, v4, v5, v6] st A Q := b_ne i_231_137 rfl rfl rfl
theorem q_231_140 : XX d 231 140 [v0, v1, v2, v3, v4, some (.int x), v6] st A Q ↔ XX d 231 142 [v0, v1, v2, v3, v4, some (.int x), v6] (.int x :: st) A Q := c_lcl i_231_140 rfl rfl
theorem q_231_142 : XX d 231 142 [v0, v1, v2, v3, v4, v5, v6] st A Q ↔ XX d 231 147 [v0, v1, v2, v3, v4, v5, v6] st A Q := c_go i_231_142 rfl rfl
theorem q_231_145 : XX d 231 145 [v0, v1, v2, v3, v4, v5, some (.int x)] st A Q ↔ XX d 231 147 [v0, v1, v2, v3, v4, v5, some (.int x)] (.int x :: st) A Q := c_lcl i_231_145 rfl rfl
theorem q_231_147 : XX d 231 147 [v0, v1, v2, v3, v4, v5, v6] [.int x] A Q ↔ Q (.inl (some (.int x))) A := e_retI i_231_147 rfl
theorem q_231_148 : XX d 231 148 [v0, v1, v2, v3, v4, v5, some (.int x)] st A Q ↔ XX d 231 150 [v0, v1, v2, v3, v4, v5, some (.int x)] (.int x :: st) A Q := c_lcl i_231_148 rfl rfl
theorem q_231_150 : XX d 231 150 [v0, v1, v2, v3, v4, v5, v6] st A Q ↔ XX d 231 151 [v0, v1, v2, v3, v4, v5, v6] (.int (w 0) :: st) A Q := c_stk i_231_150 rfl
theorem q_231_151 : XX d 231 151 [v0, v1, v2, v3, v4, v5, v6] st A Q ↔ XX d 231 153 [v0, v1, v2, v3, v4, v5, v6] (.int (w 100) :: st) A Q := c_stk i_231_151 rfl
theorem q_231_153 : XX (d + 1) 231 153 [v0, v1, v2, v3, v4, v5, v6] [.int x2, .int x1, .int x0] A Q ↔ XC d 155 [.int x0, .int x1, .int x2] A (XK (d + 1) 231 153 [v0, v1, v2, v3, v4, v5, v6] [] Q) := c_callS i_231_153 rfl rfl rfl rfl (Nat.le_of_ble_eq_true rfl) (Nat.le_of_ble_eq_true rfl)
theorem q_231_156 : XX d 231 156 [v0, v1, v2, v3, v4, v5, v6] (.int x :: st) A Q ↔ if x = w 0 then XX d 231 167 [v0, v1, v2, v3, v4, v5, v6] st A Q else XX d 231 159 [v0, v1, v2, v3, v4, v5, v6] st A Q := z_eq i_231_156 rfl rfl rfl
theorem q_231_159 : XX d 231 159 [some (.ref a), v1, v2, v3, v4, v5, v6] st A Q ↔ XX d 231 160 [some (.ref a), v1, v2, v3, v4, v5, v6] (.ref a :: st) A Q := c_lcl i_231_159 rfl rfl
theorem q_231_160 : XX d 231 160 [v0, v1, v2, v3, v4, v5, v6] (.ref a :: st) (mk S I L R G) Q ↔ S a = some (.inr 12) ∧ XX d 231 163 [v0, v1, v2, v3, v4, v5, v6] (.ref (a + 6673) :: st) (mk S I L R G) Q := r_gf i_231_160 rfl (by decide) rfl
theorem q_231_163 : XX d 231 163 [v0, v1, v2, v3, v4, v5, some (.int x)] st A Q ↔ XX d 231 165 [v0, v1, v2, v3, v4, v5, some (.int x)] (.int x :: st) A Q := c_lcl i_231_163 rfl rfl
theorem q_231_165 : XX d 231 165 [v0, v1, v2, v3, v4, v5, v6] st A Q ↔ XX d 231 166 [v0, v1, v2, v3, v4, v5, v6] (.int (w 1) :: st) A Q := c_stk i_231_165 rfl
theorem q_231_166 : XX d 231 166 [v0, v1, v2, v3, v4, v5, v6] (.int y :: .int x :: .ref a :: st) (mk S I L R G) Q ↔ bsP (S a) x y (fun y => XX d 231 167 [v0, v1, v2, v3, v4, v5, v6] st (mk S (wr I a (up (I a) (ix x) y)) L R G) Q) := r_bas i_231_166
theorem q_231_167 : XX d 231 167 [v0, v1, v2, some (.int z), some (.int x), v5, v6] st A Q ↔ XX d 231 170 [v0, v1, v2, some (.int z), some (.int (x + w 1)), v5, v6] st A Q := c_lcl i_231_167 rfl rfl
theorem q_231_170 : XX d 231 170 [v0, v1, v2, v3, v4, v5, some (.int x)] st A Q ↔ XX d 231 172 [v0, v1, v2, v3, v4, v5, some (.int x)] (.int x :: st) A Q := c_lcl i_231_170 rfl rfl
theorem q_231_172 : XX d 231 172 [v0, v1, v2, v3, some (.int z), v5, v6] (.int x :: st) A Q ↔ XX d 231 174 [v0, v1, v2, v3, some (.int z), some (.int x), v6] st A Q := c_lcl i_231_172 rfl rfl
theorem q_231_174 : XX d 231 174 [some (.ref a), v1, v2, v3, v4, v5, v6] st A Q ↔ XX d 231 175 [some (.ref a), v1, v2, v3, v4, v5, v6] (.ref a :: st) A Q := c_lcl i_231_174 rfl rfl
theorem q_231_175 : XX d 231 175 [some (.ref a), v1, v2, v3, v4, v5, v6] st A Q ↔ XX d 231 176 [some (.ref a), v1, v2, v3, v4, v5, v6] (.ref a :: st) A Q := c_lcl i_231_175 rfl rfl
theorem q_231_176 : XX d 231 176 [v0, v1, v2, v3, v4, v5, v6] (.ref a :: st) (mk S I L R G) Q ↔ S a = some (.inr 12) ∧ XX d 231 179 [v0, v1, v2, v3, v4, v5, v6] (.ref (a + 6541) :: st) (mk S I L R G) Q := r_gf i_231_176 rfl (by decide) rfl
theorem q_231_179 : XX d 231 179 [v0, v1, v2, v3, v4, v5, v6] st A Q ↔ XX d 231 180 [v0, v1, v2, v3, v4, v5, v6] (.int (w 0) :: st) A Q := c_stk i_231_179 rfl
theorem q_231_180 : XX d 231 180 [some (.ref a), v1, v2, v3, v4, v5, v6] st A Q ↔ XX d 231 181 [some (.ref a), v1, v2, v3, v4, v5, v6] (.ref a :: st) A Q := c_lcl i_231_180 rfl rfl
theorem q_231_181 : XX d 231 181 [v0, v1, v2, v3, v4, v5, v6] (.ref a :: st) (mk S I L R G) Q ↔ S a = some (.inr 12) ∧ XX d 231 184 [v0, v1, v2, v3, v4, v5, v6] (.int (I a 16) :: st) (mk S I L R G) Q := r_gf i_231_181 rfl (by decide) rfl
theorem q_231_184 : XX (d + 1) 231 184 [v0, v1, v2, v3, v4, v5, v6] [.int x3, .int x2, .ref a1, .ref a0] (mk S I L R G) Q ↔ S a0 = some (.inr 12) ∧ XC d 207 [.ref a0, .ref a1, .int x2, .int x3] (mk S I L R G) (XK (d + 1) 231 184 [v0, v1, v2, v3, v4, v5, v6] [] Q) := c_callV i_231_184 rfl rfl rfl rfl (Nat.le_of_ble_eq_true rfl) (Nat.le_of_ble_eq_true rfl) rfl
theorem q_231_187 : XX d 231 187 [v0, v1, v2, v3, v4, some (.int z), v6] (.int x :: st) A Q ↔ XX d 231 189 [v0, v1, v2, v3, v4, some (.int z), some (.int x)] st A Q := c_lcl i_231_187 rfl rfl
theorem q_231_189 : XX d 231 189 [v0, v1, v2, v3, v4, v5, v6] st A Q ↔ XX d 231 84 [v0, v1, v2, v3, v4, v5, v6] st A Q := c_go i_231_189 rfl rfl
theorem q_231_192 : XX d 231 192 [v0, v1, v2, some (.int x), v4, v5, v6] st A Q ↔ XX d 231 193 [v0, v1, v2, some (.int x), v4, v5, v6] (.int x :: st) A Q := c_lcl i_231_192 rfl rfl
theorem q_231_193 : XX d 231 193 [v0, v1, v2, v3, v4, v5, v6] (.int x :: st) A Q ↔ if x = w 0 then XX d 231 196 [v0, v1, v2, v3, v4, v5, v6] st A Q else XX d 231 201 [v0, v1, v2, v3, v4, v5, v6] st A Q := z_ne i_231_193 rfl rfl rfl
theorem q_231_196 : XX d 231 196 [v0, v1, v2, v3, some (.int x), v5, v6] st A Q ↔ XX d 231 198 [v0, v1, v2, v3, some (.int x), v5, v6] (.int x :: st) A Q := c_lcl i_231_196 rfl rfl
theorem q_231_198 : XX d 231 198 [v0, v1, v2, v3, v4, v5, v6] st A Q ↔ XX d 231 212 [v0, v1, v2, v3, v4, v5, v6] st A Q := c_go i_231_198 rfl rfl
theorem q_231_201 : XX d 231 201 [v0, v1, v2, some (.int x), v4, v5, v6] st A Q ↔ XX d 231 202 [v0, v1, v2, some (.int x), v4, v5, v6] (.int x :: st) A Q := c_lcl i_231_201 rfl rfl
theorem q_231_202 : XX d 231 202 [v0, v1, v2, v3, v4, v5, v6] st A Q ↔ XX d 231 203 [v0, v1, v2, v3, v4, v5, v6] (.int (w 1) :: st) A Q := c_stk i_231_202 rfl
theorem q_231_203 : XX d 231 203 [v0, v1, v2, v3, v4, v5, v6] (.int y :: .int x :: st) A Q ↔ if x = y then XX d 231 206 [v0, v1, v2, v3, v4, v5, v6] st A Q else XX d 231 211 [v0, v1, v2, v3, v4, v5, v6] st A Q := b_ne i_231_203 rfl rfl rfl
theorem q_231_206 : XX d 231 206 [v0, v1, v2, v3, v4, some (.int x), v6] st A Q ↔ XX d 231 208 [v0, v1, v2, v3, v4, some (.int x), v6] (.int x :: st) A Q := c_lcl i_231_206 rfl rfl
theorem q_231_208 : XX d 231 208 [v0, v1, v2, v3, v4, v5, v6] st A Q ↔ XX d 231 212 [v0, v1, v2, v3, v4, v5, v6] st A Q := c_go i_231_208 rfl rfl
theorem q_231_211 : XX d 231 211 [v0, v1, v2, v3, v4, v5, v6] st A Q ↔ XX d 231 212 [v0, v1, v2, v3, v4, v5, v6] (.int (w (-1)) :: st) A Q := c_stk i_231_211 rfl
theorem q_231_212 : XX d 231 212 [v0, v1, v2, v3, v4, v5, v6] [.int x] A Q ↔ Q (.inl (some (.int x))) A := e_retI i_231_212 rfl
theorem q_231_e : XC d 231 [.ref a0, .int x1, .int x2, .int x3] A Q ↔ XX d 231 0 [some (.ref a0), some (.int x1), some (.int x2), some (.int x3), none, none, none] [] A Q := Iff.rfl
theorem i_232_0 : t_ins 232 0 = some (.aload_n 0) := by decide +kernel
theorem i_232_1 : t_ins 232 1 = some (.iconst 0) := by decide +kernel
theorem i_232_2 : t_ins 232 2 = some (.putfield 121) := by decide +kernel
theorem i_232_5 : t_ins 232 5 = some (.aload_n 0) := by decide +kernel
theorem i_232_6 : t_ins 232 6 = some (.iload_n 1) := by decide +kernel
theorem i_232_7 : t_ins 232 7 = some (.invokestatic 245) := by decide +kernel
theorem i_232_10 : t_ins 232 10 = some (.ifCond .ne 7) := by decide +kernel
theorem i_232_13 : t_ins 232 13 = some (.iconst 1) := by decide +kernel
theorem i_232_14 : t_ins 232 14 = some (.goto 4) := by decide +kernel
theorem i_232_17 : t_ins 232 17 = some (.iconst 0) := by decide +kernel
theorem i_232_18 : t_ins 232 18 = some (.iconst 1) := by decide +kernel
theorem i_232_19 : t_ins 232 19 = some (.iconst 0) := by decide +kernel
theorem i_232_20 : t_ins 232 20 = some (.invokevirtual 234) := by decide +kernel
theorem i_232_23 : t_ins 232 23 = some (.ifCond .eq 5) := by decide +kernel
theorem i_232_26 : t_ins 232 26 = some (.iconst 0) := by decide +kernel
theorem i_232_27 : t_ins 232 27 = some (.ireturn) := by decide +kernel
theorem i_232_28 : t_ins 232 28 = some (.aload_n 0) := by decide +kernel
theorem i_232_29 : t_ins 232 29 = some (.iload_n 1) := by decide +kernel
theorem i_232_30 : t_ins 232 30 = some (.invokevirtual 301) := by decide +kernel
theorem i_232_33 : t_ins 232 33 = some (.iconst 0) := by decide +kernel
theorem i_232_34 : t_ins 232 34 = some (.istore_n 2) := by decide +kernel
theorem i_232_35 : t_ins 232 35 = some (.iconst 0) := by decide +kernel
theorem i_232_36 : t_ins 232 36 = some (.istore_n 3) := by decide +kernel
theorem i_232_37 : t_ins 232 37 = some (.iload_n 3) := by decide +kernel
theorem i_232_38 : t_ins 232 38 = some (.aload_n 0) := by decide +kernel
theorem i_232_39 : t_ins 232 39 = some (.getfield 36) := by decide +kernel
theorem i_232_42 : t_ins 232 42 = some (.if_icmp .gt 51) := by decide +kernel
theorem i_232_45 : t_ins 232 45 = some (.iload_n 2) := by decide +kernel
theorem i_232_46 : t_ins 232 46 = some (.aload_n 0) := by decide +kernel
theorem i_232_47 : t_ins 232 47 = some (.getfield 61) := by decide +kernel
theorem i_232_50 : t_ins 232 50 = some (.iload_n 3) := by decide +kernel
theorem i_232_51 : t_ins 232 51 = some (.iaload) := by decide +kernel
theorem i_232_52 : t_ins 232 52 = some (.iconst (-1)) := by decide +kernel
theorem i_232_53 : t_ins 232 53 = some (.if_icmp .eq 31) := by decide +kernel
theorem i_232_56 : t_ins 232 56 = some (.aload_n 0) := by decide +kernel
theorem i_232_57 : t_ins 232 57 = some (.aload_n 0) := by decide +kernel
theorem i_232_58 : t_ins 232 58 = some (.getfield 55) := by decide +kernel
theorem i_232_61 : t_ins 232 61 = some (.aload_n 0) := by decide +kernel
theorem i_232_62 : t_ins 232 62 = some (.getfield 58) := by decide +kernel
theorem i_232_65 : t_ins 232 65 = some (.iload_n 3) := by decide +kernel
theorem i_232_66 : t_ins 232 66 = some (.iaload) := by decide +kernel
theorem i_232_67 : t_ins 232 67 = some (.aload_n 0) := by decide +kernel
theorem i_232_68 : t_ins 232 68 = some (.getfield 61) := by decide +kernel
theorem i_232_71 : t_ins 232 71 = some (.iload_n 3) := by decide +kernel
theorem i_232_72 : t_ins 232 72 = some (.iaload) := by decide +kernel
theorem i_232_73 : t_ins 232 73 = some (.invokevirtual 324) := by decide +kernel
theorem i_232_76 : t_ins 232 76 = some (.iload_n 3) := by decide +kernel
theorem i_232_77 : t_ins 232 77 = some (.if_icmp .ne 7) := by decide +kernel
theorem i_232_80 : t_ins 232 80 = some (.iconst 1) := by decide +kernel
theorem i_232_81 : t_ins 232 81 = some (.goto 4) := by decide +kernel
theorem i_232_84 : t_ins 232 84 = some (.iconst 0) := by decide +kernel
theorem i_232_85 : t_ins 232 85 = some (.iadd) := by decide +kernel
theorem i_232_86 : t_ins 232 86 = some (.istore_n 2) := by decide +kernel
theorem i_232_87 : t_ins 232 87 = some (.iinc 3 1) := by decide +kernel
theorem i_232_90 : t_ins 232 90 = some (.goto (-53)) := by decide +kernel
theorem i_232_93 : t_ins 232 93 = some (.iload_n 2) := by decide +kernel
theorem i_232_94 : t_ins 232 94 = some (.ireturn) := by decide +kernel
theorem q_232_0 : XX d 232 0 [some (.ref a), v1, v2, v3] st A Q ↔ XX d 232 1 [some (.ref a), v1, v2, v3] (.ref a :: st) A Q := c_lcl i_232_0 rfl rfl
theorem q_232_1 : XX d 232 1 [v0, v1, v2, v3] st A Q ↔ XX d 232 2 [v0, v1, v2, v3] (.int (w 0) :: st) A Q := c_stk i_232_1 rfl
theorem q_232_2 : XX d 232 2 [v0, v1, v2, v3] (.int x :: .ref a :: st) (mk S I L R G) Q ↔ S a = some (.inr 12) ∧ XX d 232 5 [v0, v1, v2, v3] st (mk S (wr I a (up (I a) 0 x)) L R G) Q := r_pf i_232_2 rfl (by decide) rfl rfl rfl
theorem q_232_5 : XX d 232 5 [some (.ref a), v1, v2, v3] st A Q ↔ XX d 232 6 [some (.ref a), v1, v2, v3] (.ref a :: st) A Q := c_lcl i_232_5 rfl rfl
theorem q_232_6 : XX d 232 6 [v0, some (.int x), v2, v3] st A Q ↔ XX d 232 7 [v0, some (.int x), v2, v3] (.int x :: st) A Q := c_lcl i_232_6 rfl rfl
theorem q_232_7 : XX (d + 1) 232 7 [v0, v1, v2, v3] [.int x0, .ref a1] A Q ↔ XC d 182 [.int x0] A (XK (d + 1) 232 7 [v0, v1, v2, v3] [.ref a1] Q) := c_callS i_232_7 rfl rfl rfl rfl (Nat.le_of_ble_eq_true rfl) (Nat.le_of_ble_eq_true rfl)
theorem q_232_10 : XX d 232 10 [v0, v1, v2, v3] (.int x :: st) A Q ↔ if x = w 0 then XX d 232 13 [v0, v1, v2, v3] st A Q else XX d 232 17 [v0, v1, v2, v3] st A Q := z_ne i_232_10 rfl rfl rfl
theorem q_232_13 : XX d 232 13 [v0, v1, v2, v3] st A Q ↔ XX d 232 14 [v0, v1, v2, v3] (.int (w 1) :: st) A Q := c_stk i_232_13 rfl
theorem q_232_14 : XX d 232 14 [v0, v1, v2, v3] st A Q ↔ XX d 232 18 [v0, v1, v2, v3] st A Q := c_go i_232_14 rfl rfl
theorem q_232_17 : XX d 232 17 [v0, v1, v2, v3] st A Q ↔ XX d 232 18 [v0, v1, v2, v3] (.int (w 0) :: st) A Q := c_stk i_232_17 rfl
theorem q_232_18 : XX d 232 18 [v0, v1, v2, v3] st A Q ↔ XX d 232 19 [v0, v1, v2, v3] (.int (w 1) :: st) A Q := c_stk i_232_18 rfl
theorem q_232_19 : XX d 232 19 [v0, v1, v2, v3] st A Q ↔ XX d 232 20 [v0, v1, v2, v3] (.int (w 0) :: st) A Q := c_stk i_232_19 rfl
theorem q_232_20 : XX (d + 1) 232 20 [v0, v1, v2, v3] [.int x3, .int x2, .int x1, .ref a0] (mk S I L R G) Q ↔ S a0 = some (.inr 12) ∧ XC d 154 [.ref a0, .int x1, .int x2, .int x3] (mk S I L R G) (XK (d + 1) 232 20 [v0, v1, v2, v3] [] Q) := c_callV i_232_20 rfl rfl rfl rfl (Nat.le_of_ble_eq_true rfl) (Nat.le_of_ble_eq_true rfl) rfl
theorem q_232_23 : XX d 232 23 [v0, v1, v2, v3] (.int x :: st) A Q ↔ if x = w 0 then XX d 232 28 [v0, v1, v2, v3] st A Q else XX d 232 26 [v0, v1, v2, v3] st A Q := z_eq i_232_23 rfl rfl rfl
theorem q_232_26 : XX d 232 26 [v0, v1, v2, v3] st A Q ↔ XX d 232 27 [v0, v1, v2, v3] (.int (w 0) :: st) A Q := c_stk i_232_26 rfl
theorem q_232_27 : XX d 232 27 [v0, v1, v2, v3] [.int x] A Q ↔ Q (.inl (some (.int x))) A := e_retI i_232_27 rfl
theorem q_232_28 : XX d 232 28 [some (.ref a), v1, v2, v3] st A Q ↔ XX d 232 29 [some (.ref a), v1, v2, v3] (.ref a :: st) A Q := c_lcl i_232_28 rfl rfl
theorem q_232_29 : XX d 232 29 [v0, some (.int x), v2, v3] st A Q ↔ XX d 232 30 [v0, some (.int x), v2, v3] (.int x :: st) A Q := c_lcl i_232_29 rfl rfl
theorem q_232_30 : XX (d + 1) 232 30 [v0, v1, v2, v3] [.int x1, .ref a0] (mk S I L R G) Q ↔ S a0 = some (.inr 12) ∧ XC d 194 [.ref a0, .int x1] (mk S I L R G) (XK (d + 1) 232 30 [v0, v1, v2, v3] [] Q) := c_callV i_232_30 rfl rfl rfl rfl (Nat.le_of_ble_eq_true rfl) (Nat.le_of_ble_eq_true rfl) rfl
theorem q_232_33 : XX d 232 33 [v0, v1, v2, v3] st A Q ↔ XX d 232 34 [v0, v1, v2, v3] (.int (w 0) :: st) A Q := c_stk i_232_33 rfl
theorem q_232_34 : XX d 232 34 [v0, some (.int z), v2, v3] (.int x :: st) A Q ↔ XX d 232 35 [v0, some (.int z), some (.int x), v3] st A Q := c_lcl i_232_34 rfl rfl
theorem q_232_35 : XX d 232 35 [v0, v1, v2, v3] st A Q ↔ XX d 232 36 [v0, v1, v2, v3] (.int (w 0) :: st) A Q := c_stk i_232_35 rfl
theorem q_232_36 : XX d 232 36 [v0, v1, some (.int z), v3] (.int x :: st) A Q ↔ XX d 232 37 [v0, v1, some (.int z), some (.int x)] st A Q := c_lcl i_232_36 rfl rfl
theorem q_232_37 : XX d 232 37 [v0, v1, v2, some (.int x)] st A Q ↔ XX d 232 38 [v0, v1, v2, some (.int x)] (.int x :: st) A Q := c_lcl i_232_37 rfl rfl
theorem q_232_38 : XX d 232 38 [some (.ref a), v1, v2, v3] st A Q ↔ XX d 232 39 [some (.ref a), v1, v2, v3] (.ref a :: st) A Q := c_lcl i_232_38 rfl rfl
theorem q_232_39 : XX d 232 39 [v0, v1, v2, v3] (.ref a :: st) (mk S I L R G) Q ↔ S a = some (.inr 12) ∧ XX d 232 42 [v0, v1, v2, v3] (.int (I a 13) :: st) (mk S I L R G) Q := r_gf i_232_39 rfl (by decide) rfl
theorem q_232_42 : XX d 232 42 [v0, v1, v2, v3] (.int y :: .int x :: st) A Q ↔ if y < x then XX d 232 93 [v0, v1, v2, v3] st A Q else XX d 232 45 [v0, v1, v2, v3] st A Q := b_gt i_232_42 rfl rfl rfl
theorem q_232_45 : XX d 232 45 [v0, v1, some (.int x), v3] st A Q ↔ XX d 232 46 [v0, v1, some (.int x), v3] (.int x :: st) A Q := c_lcl i_232_45 rfl rfl
theorem q_232_46 : XX d 232 46 [some (.ref a), v1, v2, v3] st A Q ↔ XX d 232 47 [some (.ref a), v1, v2, v3] (.ref a :: st) A Q := c_lcl i_232_46 rfl rfl
theorem q_232_47 : XX d 232 47 [v0, v1, v2, v3] (.ref a :: st) (mk S I L R G) Q ↔ S a = some (.inr 12) ∧ XX d 232 50 [v0, v1, v2, v3] (.ref (a + 6579) :: st) (mk S I L R G) Q := r_gf i_232_47 rfl (by decide) rfl
theorem q_232_50 : XX d 232 50 [v0, v1, v2, some (.int x)] st A Q ↔ XX d 232 51 [v0, v1, v2, some (.int x)] (.int x :: st) A Q := c_lcl i_232_50 rfl rfl
theorem q_232_51 : XX d 232 51 [v0, v1, v2, v3] (.int x :: .ref a :: st) (mk S I L R G) Q ↔ inA (S a) ok_i x ∧ XX d 232 52 [v0, v1, v2, v3] (.int (I a (ix x)) :: st) (mk S I L R G) Q := r_ia i_232_51
theorem q_232_52 : XX d 232 52 [v0, v1, v2, v3] st A Q ↔ XX d 232 53 [v0, v1, v2, v3] (.int (w (-1)) :: st) A Q := c_stk i_232_52 rfl
theorem q_232_53 : XX d 232 53 [v0, v1, v2, v3] (.int y :: .int x :: st) A Q ↔ if x = y then XX d 232 84 [v0, v1, v2, v3] st A Q else XX d 232 56 [v0, v1, v2, v3] st A Q := b_eq i_232_53 rfl rfl rfl
theorem q_232_56 : XX d 232 56 [some (.ref a), v1, v2, v3] st A Q ↔ XX d 232 57 [some (.ref a), v1, v2, v3] (.ref a :: st) A Q := c_lcl i_232_56 rfl rfl
theorem q_232_57 : XX d 232 57 [some (.ref a), v1, v2, v3] st A Q ↔ XX d 232 58 [some (.ref a), v1, v2, v3] (.ref a :: st) A Q := c_lcl i_232_57 rfl rfl
theorem q_232_58 : XX d 232 58 [v0, v1, v2, v3] (.ref a :: st) (mk S I L R G) Q ↔ S a = some (.inr 12) ∧ XX d 232 61 [v0, v1, v2, v3] (.ref (a + 6577) :: st) (mk S I L R G) Q := r_gf i_232_58 rfl (by decide) rfl
theorem q_232_61 : XX d 232 61 [some (.ref a), v1, v2, v3] st A Q ↔ XX d 232 62 [some (.ref a), v1, v2, v3] (.ref a :: st) A Q := c_lcl i_232_61 rfl rfl
theorem q_232_62 : XX d 232 62 [v0, v1, v2, v3] (.ref a :: st) (mk S I L R G) Q ↔ S a = some (.inr 12) ∧ XX d 232 65 [v0, v1, v2, v3] (.ref (a + 6578) :: st) (mk S I L R G) Q := r_gf i_232_62 rfl (by decide) rfl
theorem q_232_65 : XX d 232 65 [v0, v1, v2, some (.int x)] st A Q ↔ XX d 232 66 [v0, v1, v2, some (.int x)] (.int x :: st) A Q := c_lcl i_232_65 rfl rfl
theorem q_232_66 : XX d 232 66 [v0, v1, v2, v3] (.int x :: .ref a :: st) (mk S I L R G) Q ↔ inA (S a) ok_i x ∧ XX d 232 67 [v0, v1, v2, v3] (.int (I a (ix x)) :: st) (mk S I L R G) Q := r_ia i_232_66
theorem q_232_67 : XX d 232 67 [some (.ref a), v1, v2, v3] st A Q ↔ XX d 232 68 [some (.ref a), v1, v2, v3] (.ref a :: st) A Q := c_lcl i_232_67 rfl rfl
theorem q_232_68 : XX d 232 68 [v0, v1, v2, v3] (.ref a :: st) (mk S I L R G) Q ↔ S a = some (.inr 12) ∧ XX d 232 71 [v0, v1, v2, v3] (.ref (a + 6579) :: st) (mk S I L R G) Q := r_gf i_232_68 rfl (by decide) rfl
theorem q_232_71 : XX d 232 71 [v0, v1, v2, some (.int x)] st A Q ↔ XX d 232 72 [v0, v1, v2, some (.int x)] (.int x :: st) A Q := c_lcl i_232_71 rfl rfl
theorem q_232_72 : XX d 232 72 [v0, v1, v2, v3] (.int x :: .ref a :: st) (mk S I L R G) Q ↔ inA (S a) ok_i x ∧ XX d 232 73 [v0, v1, v2, v3] (.int (I a (ix x)) :: st) (mk S I L R G) Q := r_ia i_232_72
theorem q_232_73 : XX (d + 1) 232 73 [v0, v1, v2, v3] [.int x3, .int x2, .ref a1, .ref a0, .int x4] (mk S I L R G) Q ↔ S a0 = some (.inr 12) ∧ XC d 207 [.ref a0, .ref a1, .int x2, .int x3] (mk S I L R G) (XK (d + 1) 232 73 [v0, v1, v2, v3] [.int x4] Q) := c_callV i_232_73 rfl rfl rfl rfl (Nat.le_of_ble_eq_true rfl) (Nat.le_of_ble_eq_true rfl) rfl
theorem q_232_76 : XX d 232 76 [v0, v1, v2, some (.int x)] st A Q ↔ XX d 232 77 [v0, v1, v2, some (.int x)] (.int x :: st) A Q := c_lcl i_232_76 rfl rfl
theorem q_232_77 : XX d 232 77 [v0, v1, v2, v3] (.int y :: .int x :: st) A Q ↔ if x = y then XX d 232 80 [v0, v1, v2, v3] st A Q else XX d 232 84 [v0, v1, v2, v3] st A Q := b_ne i_232_77 rfl rfl rfl
theorem q_232_80 : XX d 232 80 [v0, v1, v2, v3] st A Q ↔ XX d 232 81 [v0, v1, v2, v3] (.int (w 1) :: st) A Q := c_stk i_232_80 rfl
theorem q_232_81 : XX d 232 81 [v0, v1, v2, v3] st A Q ↔ XX d 232 85 [v0, v1, v2, v3] st A Q := c_go i_232_81 rfl rfl
theorem q_232_84 : XX d 232 84 [v0, v1, v2, v3] st A Q ↔ XX d 232 85 [v0, v1, v2, v3] (.int (w 0) :: st) A Q := c_stk i_232_84 rfl
theorem q_232_85 : XX d 232 85 [v0, v1, v2, v3] (.int y :: .int x :: st) A Q ↔ XX d 232 86 [v0, v1, v2, v3] (.int (x + y) :: st) A Q := c_stk i_232_85 rfl
theorem q_232_86 : XX d 232 86 [v0, some (.int z), v2, v3] (.int x :: st) A Q ↔ XX d 232 87 [v0, some (.int z), some (.int x), v3] st A Q := c_lcl i_232_86 rfl rfl
theorem q_232_87 : XX d 232 87 [v0, v1, some (.int z), some (.int x)] st A Q ↔ XX d 232 90 [v0, v1, some (.int z), some (.int (x + w 1))] st A Q := c_lcl i_232_87 rfl rfl
theorem q_232_90 : XX d 232 90 [v0, v1, v2, v3] st A Q ↔ XX d 232 37 [v0, v1, v2, v3] st A Q := c_go i_232_90 rfl rfl
theorem q_232_93 : XX d 232 93 [v0, v1, some (.int x), v3] st A Q ↔ XX d 232 94 [v0, v1, some (.int x), v3] (.int x :: st) A Q := c_lcl i_232_93 rfl rfl
theorem q_232_94 : XX d 232 94 [v0, v1, v2, v3] [.int x] A Q ↔ Q (.inl (some (.int x))) A := e_retI i_232_94 rfl
theorem q_232_e : XC d 232 [.ref a0, .int x1] A Q ↔ XX d 232 0 [some (.ref a0), some (.int x1), none, none] [] A Q := Iff.rfl
theorem i_233_0 : t_ins 233 0 = some (.aload_n 0) := by decide +kernel
theorem i_233_1 : t_ins 233 1 = some (.getfield 112) := by decide +kernel
theorem i_233_4 : t_ins 233 4 = some (.iload_n 1) := by decide +kernel
theorem i_233_5 : t_ins 233 5 = some (.iaload) := by decide +kernel
theorem i_233_6 : t_ins 233 6 = some (.aload_n 0) := by decide +kernel
theorem i_233_7 : t_ins 233 7 = some (.getfield 112) := by decide +kernel
theorem i_233_10 : t_ins 233 10 = some (.iload_n 2) := by decide +kernel
theorem i_233_11 : t_ins 233 11 = some (.iaload) := by decide +kernel
theorem i_233_12 : t_ins 233 12 = some (.invokestatic 295) := by decide +kernel
theorem i_233_15 : t_ins 233 15 = some (.istore_n 3) := by decide +kernel
theorem i_233_16 : t_ins 233 16 = some (.iconst 0) := by decide +kernel
theorem i_233_17 : t_ins 233 17 = some (.istore 4) := by decide +kernel
theorem i_233_19 : t_ins 233 19 = some (.iload 4) := by decide +kernel
theorem i_233_21 : t_ins 233 21 = some (.iload_n 3) := by decide +kernel
theorem i_233_22 : t_ins 233 22 = some (.if_icmp .ge 70) := by decide +kernel
theorem i_233_25 : t_ins 233 25 = some (.aload_n 0) := by decide +kernel
theorem i_233_26 : t_ins 233 26 = some (.getfield 55) := by decide +kernel
theorem i_233_29 : t_ins 233 29 = some (.aload_n 0) := by decide +kernel
theorem i_233_30 : t_ins 233 30 = some (.getfield 109) := by decide +kernel
theorem i_233_33 : t_ins 233 33 = some (.iload_n 1) := by decide +kernel
theorem i_233_34 : t_ins 233 34 = some (.iaload) := by decide +kernel
theorem i_233_35 : t_ins 233 35 = some (.iload 4) := by decide +kernel
theorem i_233_37 : t_ins 233 37 = some (.iadd) := by decide +kernel
theorem i_233_38 : t_ins 233 38 = some (.baload) := by decide +kernel
theorem i_233_39 : t_ins 233 39 = some (.aload_n 0) := by decide +kernel
theorem i_233_40 : t_ins 233 40 = some (.getfield 55) := by decide +kernel
theorem i_233_43 : t_ins 233 43 = some (.aload_n 0) := by decide +kernel
theorem i_233_44 : t_ins 233 44 = some (.getfield 109) := by decide +kernel
theorem i_233_47 : t_ins 233 47 = some (.iload_n 2) := by decide +kernel
theorem i_233_48 : t_ins 233 48 = some (.iaload) := by decide +kernel
theorem i_233_49 : t_ins 233 49 = some (.iload 4) := by decide +kernel
theorem i_233_51 : t_ins 233 51 = some (.iadd) := by decide +kernel
theorem i_233_52 : t_ins 233 52 = some (.baload) := by decide +kernel
theorem i_233_53 : t_ins 233 53 = some (.if_icmp .eq 33) := by decide +kernel
theorem i_233_56 : t_ins 233 56 = some (.aload_n 0) := by decide +kernel
theorem i_233_57 : t_ins 233 57 = some (.getfield 55) := by decide +kernel
theorem i_233_60 : t_ins 233 60 = some (.aload_n 0) := by decide +kernel
theorem i_233_61 : t_ins 233 61 = some (.getfield 109) := by decide +kernel
theorem i_233_64 : t_ins 233 64 = some (.iload_n 1) := by decide +kernel
theorem i_233_65 : t_ins 233 65 = some (.iaload) := by decide +kernel
theorem i_233_66 : t_ins 233 66 = some (.iload 4) := by decide +kernel
theorem i_233_68 : t_ins 233 68 = some (.iadd) := by decide +kernel
theorem i_233_69 : t_ins 233 69 = some (.baload) := by decide +kernel
theorem i_233_70 : t_ins 233 70 = some (.aload_n 0) := by decide +kernel
theorem i_233_71 : t_ins 233 71 = some (.getfield 55) := by decide +kernel
theorem i_233_74 : t_ins 233 74 = some (.aload_n 0) := by decide +kernel
theorem i_233_75 : t_ins 233 75 = some (.getfield 109) := by decide +kernel
theorem i_233_78 : t_ins 233 78 = some (.iload_n 2) := by decide +kernel
theorem i_233_79 : t_ins 233 79 = some (.iaload) := by decide +kernel
theorem i_233_80 : t_ins 233 80 = some (.iload 4) := by decide +kernel
theorem i_233_82 : t_ins 233 82 = some (.iadd) := by decide +kernel
theorem i_233_83 : t_ins 233 83 = some (.baload) := by decide +kernel
theorem i_233_84 : t_ins 233 84 = some (.isub) := by decide +kernel
theorem i_233_85 : t_ins 233 85 = some (.ireturn) := by decide +kernel
theorem i_233_86 : t_ins 233 86 = some (.iinc 4 1) := by decide +kernel
theorem i_233_89 : t_ins 233 89 = some (.goto (-70)) := by decide +kernel
theorem i_233_92 : t_ins 233 92 = some (.aload_n 0) := by decide +kernel
theorem i_233_93 : t_ins 233 93 = some (.getfield 112) := by decide +kernel
theorem i_233_96 : t_ins 233 96 = some (.iload_n 1) := by decide +kernel
theorem i_233_97 : t_ins 233 97 = some (.iaload) := by decide +kernel
theorem i_233_98 : t_ins 233 98 = some (.aload_n 0) := by decide +kernel
theorem i_233_99 : t_ins 233 99 = some (.getfield 112) := by decide +kernel
theorem i_233_102 : t_ins 233 102 = some (.iload_n 2) := by decide +kernel
theorem i_233_103 : t_ins 233 103 = some (.iaload) := by decide +kernel
theorem i_233_104 : t_ins 233 104 = some (.isub) := by decide +kernel
theorem i_233_105 : t_ins 233 105 = some (.ireturn) := by decide +kernel
theorem q_233_0 : XX d 233 0 [some (.ref a), v1, v2, v3, v4] st A Q ↔ XX d 233 1 [some (.ref a), v1, v2, v3, v4] (.ref a :: st) A Q := c_lcl i_233_0 rfl rfl
theorem q_233_1 : XX d 233 1 [v0, v1, v2, v3, v4] (.ref a :: st) (mk S I L R G) Q ↔ S a = some (.inr 12) ∧ XX d 233 4 [v0, v1, v2, v3, v4] (.ref (a + 6675) :: st) (mk S I L R G) Q := r_gf i_233_1 rfl (by decide) rfl
theorem q_233_4 : XX d 233 4 [v0, some (.int x), v2, v3, v4] st A Q ↔ XX d 233 5 [v0, some (.int x), v2, v3, v4] (.int x :: st) A Q := c_lcl i_233_4 rfl rfl
theorem q_233_5 : XX d 233 5 [v0, v1, v2, v3, v4] (.int x :: .ref a :: st) (mk S I L R G) Q ↔ inA (S a) ok_i x ∧ XX d 233 6 [v0, v1, v2, v3, v4] (.int (I a (ix x)) :: st) (mk S I L R G) Q := r_ia i_233_5
theorem q_233_6 : XX d 233 6 [some (.ref a), v1, v2, v3, v4] st A Q ↔ XX d 233 7 [some (.ref a), v1, v2, v3, v4] (.ref a :: st) A Q := c_lcl i_233_6 rfl rfl
theorem q_233_7 : XX d 233 7 [v0, v1, v2, v3, v4] (.ref a :: st) (mk S I L R G) Q ↔ S a = some (.inr 12) ∧ XX d 233 10 [v0, v1, v2, v3, v4] (.ref (a + 6675) :: st) (mk S I L R G) Q := r_gf i_233_7 rfl (by decide) rfl
theorem q_233_10 : XX d 233 10 [v0, v1, some (.int x), v3, v4] st A Q ↔ XX d 233 11 [v0, v1, some (.int x), v3, v4] (.int x :: st) A Q := c_lcl i_233_10 rfl rfl
theorem q_233_11 : XX d 233 11 [v0, v1, v2, v3, v4] (.int x :: .ref a :: st) (mk S I L R G) Q ↔ inA (S a) ok_i x ∧ XX d 233 12 [v0, v1, v2, v3, v4] (.int (I a (ix x)) :: st) (mk S I L R G) Q := r_ia i_233_11
theorem q_233_12 : XX (d + 1) 233 12 [v0, v1, v2, v3, v4] [.int x1, .int x0] A Q ↔ XC d 156 [.int x0, .int x1] A (XK (d + 1) 233 12 [v0, v1, v2, v3, v4] [] Q) := c_callS i_233_12 rfl rfl rfl rfl (Nat.le_of_ble_eq_true rfl) (Nat.le_of_ble_eq_true rfl)
theorem q_233_15 : XX d 233 15 [v0, v1, some (.int z), v3, v4] (.int x :: st) A Q ↔ XX d 233 16 [v0, v1, some (.int z), some (.int x), v4] st A Q := c_lcl i_233_15 rfl rfl
theorem q_233_16 : XX d 233 16 [v0, v1, v2, v3, v4] st A Q ↔ XX d 233 17 [v0, v1, v2, v3, v4] (.int (w 0) :: st) A Q := c_stk i_233_16 rfl
theorem q_233_17 : XX d 233 17 [v0, v1, v2, some (.int z), v4] (.int x :: st) A Q ↔ XX d 233 19 [v0, v1, v2, some (.int z), some (.int x)] st A Q := c_lcl i_233_17 rfl rfl
theorem q_233_19 : XX d 233 19 [v0, v1, v2, v3, some (.int x)] st A Q ↔ XX d 233 21 [v0, v1, v2, v3, some (.int x)] (.int x :: st) A Q := c_lcl i_233_19 rfl rfl
theorem q_233_21 : XX d 233 21 [v0, v1, v2, some (.int x), v4] st A Q ↔ XX d 233 22 [v0, v1, v2, some (.int x), v4] (.int x :: st) A Q := c_lcl i_233_21 rfl rfl
theorem q_233_22 : XX d 233 22 [v0, v1, v2, v3, v4] (.int y :: .int x :: st) A Q ↔ if x < y then XX d 233 25 [v0, v1, v2, v3, v4] st A Q else XX d 233 92 [v0, v1, v2, v3, v4] st A Q := b_ge i_233_22 rfl rfl rfl
theorem q_233_25 : XX d 233 25 [some (.ref a), v1, v2, v3, v4] st A Q ↔ XX d 233 26 [some (.ref a), v1, v2, v3, v4] (.ref a :: st) A Q := c_lcl i_233_25 rfl rfl
theorem q_233_26 : XX d 233 26 [v0, v1, v2, v3, v4] (.ref a :: st) (mk S I L R G) Q ↔ S a = some (.inr 12) ∧ XX d 233 29 [v0, v1, v2, v3, v4] (.ref (a + 6577) :: st) (mk S I L R G) Q := r_gf i_233_26 rfl (by decide) rfl
theorem q_233_29 : XX d 233 29 [some (.ref a), v1, v2, v3, v4] st A Q ↔ XX d 233 30 [some (.ref a), v1, v2, v3, v4] (.ref a :: st) A Q := c_lcl i_233_29 rfl rfl
theorem q_233_30 : XX d 233 30 [v0, v1, v2, v3, v4] (.ref a :: st) (mk S I L R G) Q ↔ S a = some (.inr 12) ∧ XX d 233 33 [v0, v1, v2, v3, v4] (.ref (a + 6674) :: st) (mk S I L R G) Q := r_gf i_233_30 rfl (by decide) rfl
theorem q_233_33 : XX d 233 33 [v0, some (.int x), v2, v3, v4] st A Q ↔ XX d 233 34 [v0, some (.int x), v2, v3, v4] (.int x :: st) A Q := c_lcl i_233_33 rfl rfl
theorem q_233_34 : XX d 233 34 [v0, v1, v2, v3, v4] (.int x :: .ref a :: st) (mk S I L R G) Q ↔ inA (S a) ok_i x ∧ XX d 233 35 [v0, v1, v2, v3, v4] (.int (I a (ix x)) :: st) (mk S I L R G) Q := r_ia i_233_34
theorem q_233_35 : XX d 233 35 [v0, v1, v2, v3, some (.int x)] st A Q ↔ XX d 233 37 [v0, v1, v2, v3, some (.int x)] (.int x :: st) A Q := c_lcl i_233_35 rfl rfl
theorem q_233_37 : XX d 233 37 [v0, v1, v2, v3, v4] (.int y :: .int x :: st) A Q ↔ XX d 233 38 [v0, v1, v2, v3, v4] (.int (x + y) :: st) A Q := c_stk i_233_37 rfl
theorem q_233_38 : XX d 233 38 [v0, v1, v2, v3, v4] (.int x :: .ref a :: st) (mk S I L R G) Q ↔ inA (S a) ok_b x ∧ XX d 233 39 [v0, v1, v2, v3, v4] (.int (I a (ix x)) :: st) (mk S I L R G) Q := r_ba i_233_38
theorem q_233_39 : XX d 233 39 [some (.ref a), v1, v2, v3, v4] st A Q ↔ XX d 233 40 [some (.ref a), v1, v2, v3, v4] (.ref a :: st) A Q := c_lcl i_233_39 rfl rfl
theorem q_233_40 : XX d 233 40 [v0, v1, v2, v3, v4] (.ref a :: st) (mk S I L R G) Q ↔ S a = some (.inr 12) ∧ XX d 233 43 [v0, v1, v2, v3, v4] (.ref (a + 6577) :: st) (mk S I L R G) Q := r_gf i_233_40 rfl (by decide) rfl
theorem q_233_43 : XX d 233 43 [some (.ref a), v1, v2, v3, v4] st A Q ↔ XX d 233 44 [some (.ref a), v1, v2, v3, v4] (.ref a :: st) A Q := c_lcl i_233_43 rfl rfl
theorem q_233_44 : XX d 233 44 [v0, v1, v2, v3, v4] (.ref a :: st) (mk S I L R G) Q ↔ S a = some (.inr 12) ∧ XX d 233 47 [v0, v1, v2, v3, v4] (.ref (a + 6674) :: st) (mk S I L R G) Q := r_gf i_233_44 rfl (by decide) rfl
theorem q_233_47 : XX d 233 47 [v0, v1, some (.int x), v3, v4] st A Q ↔ XX d 233 48 [v0, v1, some (.int x), v3, v4] (.int x :: st) A Q := c_lcl i_233_47 rfl rfl
theorem q_233_48 : XX d 233 48 [v0, v1, v2, v3, v4] (.int x :: .ref a :: st) (mk S I L R G) Q ↔ inA (S a) ok_i x ∧ XX d 233 49 [v0, v1, v2, v3, v4] (.int (I a (ix x)) :: st) (mk S I L R G) Q := r_ia i_233_48
theorem q_233_49 : XX d 233 49 [v0, v1, v2, v3, some (.int x)] st A Q ↔ XX d 233 51 [v0, v1, v2, v3, some (.int x)] (.int x :: st) A Q := c_lcl i_233_49 rfl rfl
theorem q_233_51 : XX d 233 51 [v0, v1, v2, v3, v4] (.int y :: .int x :: st) A Q ↔ XX d 233 52 [v0, v1, v2, v3, v4] (.int (x + y) :: st) A Q := c_stk i_233_51 rfl
theorem q_233_52 : XX d 233 52 [v0, v1, v2, v3, v4] (.int x :: .ref a :: st) (mk S I L R G) Q ↔ inA (S a) ok_b x ∧ XX d 233 53 [v0, v1, v2, v3, v4] (.int (I a (ix x)) :: st) (mk S I L R G) Q := r_ba i_233_52
theorem q_233_53 : XX d 233 53 [v0, v1, v2, v3, v4] (.int y :: .int x :: st) A Q ↔ if x = y then XX d 233 86 [v0, v1, v2, v3, v4] st A Q else XX d 233 56 [v0, v1, v2, v3, v4] st A Q := b_eq i_233_53 rfl rfl rfl
theorem q_233_56 : XX d 233 56 [some (.ref a), v1, v2, v3, v4] st A Q ↔ XX d 233 57 [some (.ref a), v1, v2, v3, v4] (.ref a :: st) A Q := c_lcl i_233_56 rfl rfl
theorem q_233_57 : XX d 233 57 [v0, v1, v2, v3, v4] (.ref a :: st) (mk S I L R G) Q ↔ S a = some (.inr 12) ∧ XX d 233 60 [v0, v1, v2, v3, v4] (.ref (a + 6577) :: st) (mk S I L R G) Q := r_gf i_233_57 rfl (by decide) rfl
theorem q_233_60 : XX d 233 60 [some (.ref a), v1, v2, v3, v4] st A Q ↔ XX d 233 61 [some (.ref a), v1, v2, v3, v4] (.ref a :: st) A Q := c_lcl i_233_60 rfl rfl
theorem q_233_61 : XX d 233 61 [v0, v1, v2, v3, v4] (.ref a :: st) (mk S I L R G) Q ↔ S a = some (.inr 12) ∧ XX d 233 64 [v0, v1, v2, v3, v4] (.ref (a + 6674) :: st) (mk S I L R G) Q := r_gf i_233_61 rfl (by decide) rfl
theorem q_233_64 : XX d 233 64 [v0, some (.int x), v2, v3, v4] st A Q ↔ XX d 233 65 [v0, some (.int x), v2, v3, v4] (.int x :: st) A Q := c_lcl i_233_64 rfl rfl
theorem q_233_65 : XX d 233 65 [v0, v1, v2, v3, v4] (.int x :: .ref a :: st) (mk S I L R G) Q ↔ inA (S a) ok_i x ∧ XX d 233 66 [v0, v1, v2, v3, v4] (.int (I a (ix x)) :: st) (mk S I L R G) Q := r_ia i_233_65
theorem q_233_66 : XX d 233 66 [v0, v1, v2, v3, some (.int x)] st A Q ↔ XX d 233 68 [v0, v1, v2, v3, some (.int x)] (.int x :: st) A Q := c_lcl i_233_66 rfl rfl
theorem q_233_68 : XX d 233 68 [v0, v1, v2, v3, v4] (.int y :: .int x :: st) A Q ↔ XX d 233 69 [v0, v1, v2, v3, v4] (.int (x + y) :: st) A Q := c_stk i_233_68 rfl
theorem q_233_69 : XX d 233 69 [v0, v1, v2, v3, v4] (.int x :: .ref a :: st) (mk S I L R G) Q ↔ inA (S a) ok_b x ∧ XX d 233 70 [v0, v1, v2, v3, v4] (.int (I a (ix x)) :: st) (mk S I L R G) Q := r_ba i_233_69
theorem q_233_70 : XX d 233 70 [some (.ref a), v1, v2, v3, v4] st A Q ↔ XX d 233 71 [some (.ref a), v1, v2, v3, v4] (.ref a :: st) A Q := c_lcl i_233_70 rfl rfl
theorem q_233_71 : XX d 233 71 [v0, v1, v2, v3, v4] (.ref a :: st) (mk S I L R G) Q ↔ S a = some (.inr 12) ∧ XX d 233 74 [v0, v1, v2, v3, v4] (.ref (a + 6577) :: st) (mk S I L R G) Q := r_gf i_233_71 rfl (by decide) rfl
theorem q_233_74 : XX d 233 74 [some (.ref a), v1, v2, v3, v4] st A Q ↔ XX d 233 75 [some (.ref a), v1, v2, v3, v4] (.ref a :: st) A Q := c_lcl i_233_74 rfl rfl
theorem q_233_75 : XX d 233 75 [v0, v1, v2, v3, v4] (.ref a :: st) (mk S I L R G) Q ↔ S a = some (.inr 12) ∧ XX d 233 78 [v0, v1, v2, v3, v4] (.ref (a + 6674) :: st) (mk S I L R G) Q := r_gf i_233_75 rfl (by decide) rfl
theorem q_233_78 : XX d 233 78 [v0, v1, some (.int x), v3, v4] st A Q ↔ XX d 233 79 [v0, v1, some (.int x), v3, v4] (.int x :: st) A Q := c_lcl i_233_78 rfl rfl
theorem q_233_79 : XX d 233 79 [v0, v1, v2, v3, v4] (.int x :: .ref a :: st) (mk S I L R G) Q ↔ inA (S a) ok_i x ∧ XX d 233 80 [v0, v1, v2, v3, v4] (.int (I a (ix x)) :: st) (mk S I L R G) Q := r_ia i_233_79
theorem q_233_80 : XX d 233 80 [v0, v1, v2, v3, some (.int x)] st A Q ↔ XX d 233 82 [v0, v1, v2, v3, some (.int x)] (.int x :: st) A Q := c_lcl i_233_80 rfl rfl
theorem q_233_82 : XX d 233 82 [v0, v1, v2, v3, v4] (.int y :: .int x :: st) A Q ↔ XX d 233 83 [v0, v1, v2, v3, v4] (.int (x + y) :: st) A Q := c_stk i_233_82 rfl
theorem q_233_83 : XX d 233 83 [v0, v1, v2, v3, v4] (.int x :: .ref a :: st) (mk S I L R G) Q ↔ inA (S a) ok_b x ∧ XX d 233 84 [v0, v1, v2, v3, v4] (.int (I a (ix x)) :: st) (mk S I L R G) Q := r_ba i_233_83
theorem q_233_84 : XX d 233 84 [v0, v1, v2, v3, v4] (.int y :: .int x :: st) A Q ↔ XX d 233 85 [v0, v1, v2, v3, v4] (.int (x - y) :: st) A Q := c_stk i_233_84 rfl
theorem q_233_85 : XX d 233 85 [v0, v1, v2, v3, v4] [.int x] A Q ↔ Q (.inl (some (.int x))) A := e_retI i_233_85 rfl
theorem q_233_86 : XX d 233 86 [v0, v1, v2, some (.int z), some (.int x)] st A Q ↔ XX d 233 89 [v0, v1, v2, some (.int z), some (.int (x + w 1))] st A Q := c_lcl i_233_86 rfl rfl
theorem q_233_89 : XX d 233 89 [v0, v1, v2, v3, v4] st A Q ↔ XX d 233 19 [v0, v1, v2, v3, v4] st A Q := c_go i_233_89 rfl rfl
theorem q_233_92 : XX d 233 92 [some (.ref a), v1, v2, v3, v4] st A Q ↔ XX d 233 93 [some (.ref a), v1, v2, v3, v4] (.ref a :: st) A Q := c_lcl i_233_92 rfl rfl
theorem q_233_93 : XX d 233 93 [v0, v1, v2, v3, v4] (.ref a :: st) (mk S I L R G) Q ↔ S a = some (.inr 12) ∧ XX d 233 96 [v0, v1, v2, v3, v4] (.ref (a + 6675) :: st) (mk S I L R G) Q := r_gf i_233_93 rfl (by decide) rfl
theorem q_233_96 : XX d 233 96 [v0, some (.int x), v2, v3, v4] st A Q ↔ XX d 233 97 [v0, some (.int x), v2, v3, v4] (.int x :: st) A Q := c_lcl i_233_96 rfl rfl
theorem q_233_97 : XX d 233 97 [v0, v1, v2, v3, v4] (.int x :: .ref a :: st) (mk S I L R G) Q ↔ inA (S a) ok_i x ∧ XX d 233 98 [v0, v1, v2, v3, v4] (.int (I a (ix x)) :: st) (mk S I L R G) Q := r_ia i_233_97
theorem q_233_98 : XX d 233 98 [some (.ref a), v1, v2, v3, v4] st A Q ↔ XX d 233 99 [some (.ref a), v1, v2, v3, v4] (.ref a :: st) A Q := c_lcl i_233_98 rfl rfl
theorem q_233_99 : XX d 233 99 [v0, v1, v2, v3, v4] (.ref a :: st) (mk S I L R G) Q ↔ S a = some (.inr 12) ∧ XX d 233 102 [v0, v1, v2, v3, v4] (.ref (a + 6675) :: st) (mk S I L R G) Q := r_gf i_233_99 rfl (by decide) rfl
theorem q_233_102 : XX d 233 102 [v0, v1, some (.int x), v3, v4] st A Q ↔ XX d 233 103 [v0, v1, some (.int x), v3, v4] (.int x :: st) A Q := c_lcl i_233_102 rfl rfl
theorem q_233_103 : XX d 233 103 [v0, v1, v2, v3, v4] (.int x :: .ref a :: st) (mk S I L R G) Q ↔ inA (S a) ok_i x ∧ XX d 233 104 [v0, v1, v2, v3, v4] (.int (I a (ix x)) :: st) (mk S I L R G) Q := r_ia i_233_103
theorem q_233_104 : XX d 233 104 [v0, v1, v2, v3, v4] (.int y :: .int x :: st) A Q ↔ XX d 233 105 [v0, v1, v2, v3, v4] (.int (x - y) :: st) A Q := c_stk i_233_104 rfl
theorem q_233_105 : XX d 233 105 [v0, v1, v2, v3, v4] [.int x] A Q ↔ Q (.inl (some (.int x))) A := e_retI i_233_105 rfl
theorem q_233_e : XC d 233 [.ref a0, .int x1, .int x2] A Q ↔ XX d 233 0 [some (.ref a0), some (.int x1), some (.int x2), none, none] [] A Q := Iff.rfl
end

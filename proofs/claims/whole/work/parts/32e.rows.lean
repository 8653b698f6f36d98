/-! rows of methods 99 to 125 -/
section
variable {d : Nat} {Q : XO → Hp → Prop} {S : SH} {I : MI} {L : ML} {R : MR} {G : MG} {A : Hp} {st : List Value} {x y z x0 x1 x2 x3 x4 x5 x6 x7 x8 x9 : Int32} {lx ly l0 l1 l2 l3 l4 l5 l6 : Int64} {t kk jj a b a0 a1 a2 a3 a4 a5 a6 a7 a8 a9 : Nat} {o o0 o1 o2 o3 o4 : Option Nat} {v0 v1 v2 v3 v4 v5 v6 v7 v8 v9 v10 v11 v12 v13 v14 v15 v16 v17 v18 v19 v20 : Option Value}
theorem i_99_0 : t_ins 99 0 = some (.iconst 0) := by decide +kernel
theorem i_99_1 : t_ins 99 1 = some (.istore 4) := by decide +kernel
theorem i_99_3 : t_ins 99 3 = some (.iload_n 2) := by decide +kernel
theorem i_99_4 : t_ins 99 4 = some (.istore 5) := by decide +kernel
theorem i_99_6 : t_ins 99 6 = some (.iload 5) := by decide +kernel
theorem i_99_8 : t_ins 99 8 = some (.iload_n 2) := by decide +kernel
theorem i_99_9 : t_ins 99 9 = some (.iload_n 3) := by decide +kernel
theorem i_99_10 : t_ins 99 10 = some (.iadd) := by decide +kernel
theorem i_99_11 : t_ins 99 11 = some (.if_icmp .ge 28) := by decide +kernel
theorem i_99_14 : t_ins 99 14 = some (.iload 5) := by decide +kernel
theorem i_99_16 : t_ins 99 16 = some (.aload_n 1) := by decide +kernel
theorem i_99_17 : t_ins 99 17 = some (.arraylength) := by decide +kernel
theorem i_99_18 : t_ins 99 18 = some (.if_icmp .ge 21) := by decide +kernel
theorem i_99_21 : t_ins 99 21 = some (.bipush 31) := by decide +kernel
theorem i_99_23 : t_ins 99 23 = some (.iload 4) := by decide +kernel
theorem i_99_25 : t_ins 99 25 = some (.imul) := by decide +kernel
theorem i_99_26 : t_ins 99 26 = some (.aload_n 1) := by decide +kernel
theorem i_99_27 : t_ins 99 27 = some (.iload 5) := by decide +kernel
theorem i_99_29 : t_ins 99 29 = some (.baload) := by decide +kernel
theorem i_99_30 : t_ins 99 30 = some (.iadd) := by decide +kernel
theorem i_99_31 : t_ins 99 31 = some (.istore 4) := by decide +kernel
theorem i_99_33 : t_ins 99 33 = some (.iinc 5 1) := by decide +kernel
theorem i_99_36 : t_ins 99 36 = some (.goto (-30)) := by decide +kernel
theorem i_99_39 : t_ins 99 39 = some (.iload 4) := by decide +kernel
theorem i_99_41 : t_ins 99 41 = some (.iload 4) := by decide +kernel
theorem i_99_43 : t_ins 99 43 = some (.bipush 15) := by decide +kernel
theorem i_99_45 : t_ins 99 45 = some (.iushr) := by decide +kernel
theorem i_99_46 : t_ins 99 46 = some (.ixor) := by decide +kernel
theorem i_99_47 : t_ins 99 47 = some (.sipush 32767) := by decide +kernel
theorem i_99_50 : t_ins 99 50 = some (.iand) := by decide +kernel
theorem i_99_51 : t_ins 99 51 = some (.istore 5) := by decide +kernel
theorem i_99_53 : t_ins 99 53 = some (.iconst 0) := by decide +kernel
theorem i_99_54 : t_ins 99 54 = some (.istore 6) := by decide +kernel
theorem i_99_56 : t_ins 99 56 = some (.iload 6) := by decide +kernel
theorem i_99_58 : t_ins 99 58 = some (.ldc 11) := by decide +kernel
theorem i_99_60 : t_ins 99 60 = some (.if_icmp .ge 100) := by decide +kernel
theorem i_99_63 : t_ins 99 63 = some (.aload_n 0) := by decide +kernel
theorem i_99_64 : t_ins 99 64 = some (.getfield 19) := by decide +kernel
theorem i_99_67 : t_ins 99 67 = some (.iload 5) := by decide +kernel
theorem i_99_69 : t_ins 99 69 = some (.iaload) := by decide +kernel
theorem i_99_70 : t_ins 99 70 = some (.ifCond .ne 38) := by decide +kernel
theorem i_99_73 : t_ins 99 73 = some (.aload_n 0) := by decide +kernel
theorem i_99_74 : t_ins 99 74 = some (.getfield 12) := by decide +kernel
theorem i_99_77 : t_ins 99 77 = some (.iload 5) := by decide +kernel
theorem i_99_79 : t_ins 99 79 = some (.iload_n 2) := by decide +kernel
theorem i_99_80 : t_ins 99 80 = some (.iastore) := by decide +kernel
theorem i_99_81 : t_ins 99 81 = some (.aload_n 0) := by decide +kernel
theorem i_99_82 : t_ins 99 82 = some (.getfield 16) := by decide +kernel
theorem i_99_85 : t_ins 99 85 = some (.iload 5) := by decide +kernel
theorem i_99_87 : t_ins 99 87 = some (.iload_n 3) := by decide +kernel
theorem i_99_88 : t_ins 99 88 = some (.iastore) := by decide +kernel
theorem i_99_89 : t_ins 99 89 = some (.aload_n 0) := by decide +kernel
theorem i_99_90 : t_ins 99 90 = some (.getfield 19) := by decide +kernel
theorem i_99_93 : t_ins 99 93 = some (.iload 5) := by decide +kernel
theorem i_99_95 : t_ins 99 95 = some (.iconst 1) := by decide +kernel
theorem i_99_96 : t_ins 99 96 = some (.iastore) := by decide +kernel
theorem i_99_97 : t_ins 99 97 = some (.aload_n 0) := by decide +kernel
theorem i_99_98 : t_ins 99 98 = some (.dup) := by decide +kernel
theorem i_99_99 : t_ins 99 99 = some (.getfield 22) := by decide +kernel
theorem i_99_102 : t_ins 99 102 = some (.iconst 1) := by decide +kernel
theorem i_99_103 : t_ins 99 103 = some (.iadd) := by decide +kernel
theorem i_99_104 : t_ins 99 104 = some (.putfield 22) := by decide +kernel
theorem i_99_107 : t_ins 99 107 = some (.return_) := by decide +kernel
theorem i_99_108 : t_ins 99 108 = some (.aload_n 1) := by decide +kernel
theorem i_99_109 : t_ins 99 109 = some (.aload_n 0) := by decide +kernel
theorem i_99_110 : t_ins 99 110 = some (.getfield 12) := by decide +kernel
theorem i_99_113 : t_ins 99 113 = some (.iload 5) := by decide +kernel
theorem i_99_115 : t_ins 99 115 = some (.iaload) := by decide +kernel
theorem i_99_116 : t_ins 99 116 = some (.aload_n 0) := by decide +kernel
theorem i_99_117 : t_ins 99 117 = some (.getfield 16) := by decide +kernel
theorem i_99_120 : t_ins 99 120 = some (.iload 5) := by decide +kernel
theorem i_99_122 : t_ins 99 122 = some (.iaload) := by decide +kernel
theorem i_99_123 : t_ins 99 123 = some (.aload_n 1) := by decide +kernel
theorem i_99_124 : t_ins 99 124 = some (.iload_n 2) := by decide +kernel
theorem i_99_125 : t_ins 99 125 = some (.iload_n 3) := by decide +kernel
theorem i_99_126 : t_ins 99 126 = some (.invokestatic 75) := by decide +kernel
theorem i_99_129 : t_ins 99 129 = some (.ifCond .ne 15) := by decide +kernel
theorem i_99_132 : t_ins 99 132 = some (.aload_n 0) := by decide +kernel
theorem i_99_133 : t_ins 99 133 = some (.getfield 19) := by decide +kernel
theorem i_99_136 : t_ins 99 136 = some (.iload 5) := by decide +kernel
theorem i_99_138 : t_ins 99 138 = some (.dup2) := by decide +kernel
theorem i_99_139 : t_ins 99 139 = some (.iaload) := by decide +kernel
theorem i_99_140 : t_ins 99 140 = some (.iconst 1) := by decide +kernel
theorem i_99_141 : t_ins 99 141 = some (.iadd) := by decide +kernel
theorem i_99_142 : t_ins 99 142 = some (.iastore) := by decide +kernel
theorem i_99_143 : t_ins 99 143 = some (.return_) := by decide +kernel
theorem i_99_144 : t_ins 99 144 = some (.iload 5) := by decide +kernel
theorem i_99_146 : t_ins 99 146 = some (.iconst 1) := by decide +kernel
theorem i_99_147 : t_ins 99 147 = some (.iadd) := by decide +kernel
theorem i_99_148 : t_ins 99 148 = some (.sipush 32767) := by decide +kernel
theorem i_99_151 : t_ins 99 151 = some (.iand) := by decide +kernel
theorem i_99_152 : t_ins 99 152 = some (.istore 5) := by decide +kernel
theorem i_99_154 : t_ins 99 154 = some (.iinc 6 1) := by decide +kernel
theorem i_99_157 : t_ins 99 157 = some (.goto (-101)) := by decide +kernel
theorem i_99_160 : t_ins 99 160 = some (.return_) := by decide +kernel
theorem q_99_0 : XX d 99 0 [v0, v1, v2, v3, v4, v5, v6] st A Q ↔ XX d 99 1 [v0, v1, v2, v3, v4, v5, v6] (.int (w 0) :: st) A Q := c_stk i_99_0 rfl
theorem q_99_1 : XX d 99 1 [v0, v1, v2, some (.int z), v4, v5, v6] (.int x :: st) A Q ↔ XX d 99 3 [v0, v1, v2, some (.int z), some (.int x), v5, v6] st A Q := c_lcl i_99_1 rfl rfl
theorem q_99_3 : XX d 99 3 [v0, v1, some (.int x), v3, v4, v5, v6] st A Q ↔ XX d 99 4 [v0, v1, some (.int x), v3, v4, v5, v6] (.int x :: st) A Q := c_lcl i_99_3 rfl rfl
theorem q_99_4 : XX d 99 4 [v0, v1, v2, v3, some (.int z), v5, v6] (.int x :: st) A Q ↔ XX d 99 6 [v0, v1, v2, v3, some (.int z), some (.int x), v6] st A Q := c_lcl i_99_4 rfl rfl
theorem q_99_6 : XX d 99 6 [v0, v1, v2, v3, v4, some (.int x), v6] st A Q ↔ XX d 99 8 [v0, v1, v2, v3, v4, some (.int x), v6] (.int x :: st) A Q := c_lcl i_99_6 rfl rfl
theorem q_99_8 : XX d 99 8 [v0, v1, some (.int x), v3, v4, v5, v6] st A Q ↔ XX d 99 9 [v0, v1, some (.int x), v3, v4, v5, v6] (.int x :: st) A Q := c_lcl i_99_8 rfl rfl
theorem q_99_9 : XX d 99 9 [v0, v1, v2, some (.int x), v4, v5, v6] st A Q ↔ XX d 99 10 [v0, v1, v2, some (.int x), v4, v5, v6] (.int x :: st) A Q := c_lcl i_99_9 rfl rfl
theorem q_99_10 : XX d 99 10 [v0, v1, v2, v3, v4, v5, v6] (.int y :: .int x :: st) A Q ↔ XX d 99 11 [v0, v1, v2, v3, v4, v5, v6] (.int (x + y) :: st) A Q := c_stk i_99_10 rfl
theorem q_99_11 : XX d 99 11 [v0, v1, v2, v3, v4, v5, v6] (.int y :: .int x :: st) A Q ↔ if x < y then XX d 99 14 [v0, v1, v2, v3, v4, v5, v6] st A Q else XX d 99 39 [v0, v1, v2, v3, v4, v5, v6] st A Q := b_ge i_99_11 rfl rfl rfl
theorem q_99_14 : XX d 99 14 [v0, v1, v2, v3, v4, some (.int x), v6] st A Q ↔ XX d 99 16 [v0, v1, v2, v3, v4, some (.int x), v6] (.int x :: st) A Q := c_lcl i_99_14 rfl rfl
theorem q_99_16 : XX d 99 16 [v0, some (.ref a), v2, v3, v4, v5, v6] st A Q ↔ XX d 99 17 [v0, some (.ref a), v2, v3, v4, v5, v6] (.ref a :: st) A Q := c_lcl i_99_16 rfl rfl
theorem q_99_17 : XX d 99 17 [v0, v1, v2, v3, v4, v5, v6] (.ref a :: st) (mk S I L R G) Q ↔ alP (S a) (fun n => XX d 99 18 [v0, v1, v2, v3, v4, v5, v6] (.int n :: st) (mk S I L R G) Q) := r_al i_99_17
theorem q_99_18 : XX d 99 18 [v0, v1, v2, v3, v4, v5, v6] (.int y :: .int x :: st) A Q ↔ if x < y then XX d 99 21 [v0, v1, v2, v3, v4, v5, v6] st A Q else XX d 99 39 [v0, v1, v2, v3, v4, v5, v6] st A Q := b_ge i_99_18 rfl rfl rfl
theorem q_99_21 : XX d 99 21 [v0, v1, v2, v3, v4, v5, v6] st A Q ↔ XX d 99 23 [v0, v1, v2, v3, v4, v5, v6] (.int (w 31) :: st) A Q := c_stk i_99_21 rfl
theorem q_99_23 : XX d 99 23 [v0, v1, v2, v3, some (.int x), v5, v6] st A Q ↔ XX d 99 25 [v0, v1, v2, v3, some (.int x), v5, v6] (.int x :: st) A Q := c_lcl i_99_23 rfl rfl
theorem q_99_25 : XX d 99 25 [v0, v1, v2, v3, v4, v5, v6] (.int y :: .int x :: st) A Q ↔ XX d 99 26 [v0, v1, v2, v3, v4, v5, v6] (.int (x * y) :: st) A Q := c_stk i_99_25 rfl
theorem q_99_26 : XX d 99 26 [v0, some (.ref a), v2, v3, v4, v5, v6] st A Q ↔ XX d 99 27 [v0, some (.ref a), v2, v3, v4, v5, v6] (.ref a :: st) A Q := c_lcl i_99_26 rfl rfl
theorem q_99_27 : XX d 99 27 [v0, v1, v2, v3, v4, some (.int x), v6] st A Q ↔ XX d 99 29 [v0, v1, v2, v3, v4, some (.int x), v6] (.int x :: st) A Q := c_lcl i_99_27 rfl rfl
theorem q_99_29 : XX d 99 29 [v0, v1, v2, v3, v4, v5, v6] (.int x :: .ref a :: st) (mk S I L R G) Q ↔ inA (S a) ok_b x ∧ XX d 99 30 [v0, v1, v2, v3, v4, v5, v6] (.int (I a (ix x)) :: st) (mk S I L R G) Q := r_ba i_99_29
theorem q_99_30 : XX d 99 30 [v0, v1, v2, v3, v4, v5, v6] (.int y :: .int x :: st) A Q ↔ XX d 99 31 [v0, v1, v2, v3, v4, v5, v6] (.int (x + y) :: st) A Q := c_stk i_99_30 rfl
theorem q_99_31 : XX d 99 31 [v0, v1, v2, some (.int z), v4, v5, v6] (.int x :: st) A Q ↔ XX d 99 33 [v0, v1, v2, some (.int z), some (.int x), v5, v6] st A Q := c_lcl i_99_31 rfl rfl
theorem q_99_33 : XX d 99 33 [v0, v1, v2, v3, some (.int z), some (.int x), v6] st A Q ↔ XX d 99 36 [v0, v1, v2, v3, some (.int z), some (.int (x + w 1)), v6] st A Q := c_lcl i_99_33 rfl rfl
theorem q_99_36 : XX d 99 36 [v0, v1, v2, v3, v4, v5, v6] st A Q ↔ XX d 99 6 [v0, v1, v2, v3, v4, v5, v6] st A Q := c_go i_99_36 rfl rfl
theorem q_99_39 : XX d 99 39 [v0, v1, v2, v3, some (.int x), v5, v6] st A Q ↔ XX d 99 41 [v0, v1, v2, v3, some (.int x), v5, v6] (.int x :: st) A Q := c_lcl i_99_39 rfl rfl
theorem q_99_41 : XX d 99 41 [v0, v1, v2, v3, some (.int x), v5, v6] st A Q ↔ XX d 99 43 [v0, v1, v2, v3, some (.int x), v5, v6] (.int x :: st) A Q := c_lcl i_99_41 rfl rfl
theorem q_99_43 : XX d 99 43 [v0, v1, v2, v3, v4, v5, v6] st A Q ↔ XX d 99 45 [v0, v1, v2, v3, v4, v5, v6] (.int (w 15) :: st) A Q := c_stk i_99_43 rfl
theorem q_99_45 : XX d 99 45 [v0, v1, v2, v3, v4, v5, v6] (.int y :: .int x :: st) A Q ↔ XX d 99 46 [v0, v1, v2, v3, v4, v5, v6] (.int ((x.toUInt32 >>> (y.toUInt32 &&& Int32.toUInt32 31)).toInt32) :: st) A Q := c_stk i_99_45 rfl
theorem q_99_46 : XX d 99 46 [v0, v1, v2, v3, v4, v5, v6] (.int y :: .int x :: st) A Q ↔ XX d 99 47 [v0, v1, v2, v3, v4, v5, v6] (.int (x ^^^ y) :: st) A Q := c_stk i_99_46 rfl
theorem q_99_47 : XX d 99 47 [v0, v1, v2, v3, v4, v5, v6] st A Q ↔ XX d 99 50 [v0, v1, v2, v3, v4, v5, v6] (.int (w 32767) :: st) A Q := c_stk i_99_47 rfl
theorem q_99_50 : XX d 99 50 [v0, v1, v2, v3, v4, v5, v6] (.int y :: .int x :: st) A Q ↔ XX d 99 51 [v0, v1, v2, v3, v4, v5, v6] (.int (x &&& y) :: st) A Q := c_stk i_99_50 rfl
theorem q_99_51 : XX d 99 51 [v0, v1, v2, v3, some (.int z), v5, v6] (.int x :: st) A Q ↔ XX d 99 53 [v0, v1, v2, v3, some (.int z), some (.int x), v6] st A Q := c_lcl i_99_51 rfl rfl
theorem q_99_53 : XX d 99 53 [v0, v1, v2, v3, v4, v5, v6] st A Q ↔ XX d 99 54 [v0, v1, v2, v3, v4, v5, v6] (.int (w 0) :: st) A Q := c_stk i_99_53 rfl
theorem q_99_54 : XX d 99 54 [v0, v1, v2, v3, v4, some (.int z), v6] (.int x :: st) A Q ↔ XX d 99 56 [v0, v1, v2, v3, v4, some (.int z), some (.int x)] st A Q := c_lcl i_99_54 rfl rfl
theorem q_99_56 : XX d 99 56 [v0, v1, v2, v3, v4, v5, some (.int x)] st A Q ↔ XX d 99 58 [v0, v1, v2, v3, v4, v5, some (.int x)] (.int x :: st) A Q := c_lcl i_99_56 rfl rfl
theorem q_99_58 : XX d 99 58 [v0, v1, v2, v3, v4, v5, v6] st A Q ↔ XX d 99 60 [v0, v1, v2, v3, v4, v5, v6] (.int (w 32768) :: st) A Q := r_ldc i_99_58 rfl
theorem q_99_60 : XX d 99 60 [v0, v1, v2, v3, v4, v5, v6] (.int y :: .int x :: st) A Q ↔ if x < y then XX d 99 63 [v0, v1, v2, v3, v4, v5, v6] st A Q else XX d 99 160 [v0, v1, v2, v3, v4, v5, v6] st A Q := b_ge i_99_60 rfl rfl rfl
theorem q_99_63 : XX d 99 63 [some (.ref a), v1, v2, v3, v4, v5, v6] st A Q ↔ XX d 99 64 [some (.ref a), v1, v2, v3, v4, v5, v6] (.ref a :: st) A Q := c_lcl i_99_63 rfl rfl
theorem q_99_64 : XX d 99 64 [v0, v1, v2, v3, v4, v5, v6] (.ref a :: st) (mk S I L R G) Q ↔ S a = some (.inr 10) ∧ XX d 99 67 [v0, v1, v2, v3, v4, v5, v6] (.ref (a + 3) :: st) (mk S I L R G) Q := r_gf i_99_64 rfl (by decide) rfl
theorem q_99_67 : XX d 99 67 [v0, v1, v2, v3, v4, some (.int x), v6] st A Q ↔ XX d 99 69 [v0, v1, v2, v3, v4, some (.int x), v6] (.int x :: st) A Q := c_lcl i_99_67 rfl rfl
theorem q_99_69 : XX d 99 69 [v0, v1, v2, v3, v4, v5, v6] (.int x :: .ref a :: st) (mk S I L R G) Q ↔ inA (S a) ok_i x ∧ XX d 99 70 [v0, v1, v2, v3, v4, v5, v6] (.int (I a (ix x)) :: st) (mk S I L R G) Q := r_ia i_99_69
theorem q_99_70 : XX d 99 70 [v0, v1, v2, v3, v4, v5, v6] (.int x :: st) A Q ↔ if x = w 0 then XX d 99 73 [v0, v1, v2, v3, v4, v5, v6] st A Q else XX d 99 108 [v0, v1, v2, v3, v4, v5, v6] st A Q := z_ne i_99_70 rfl rfl rfl
theorem q_99_73 : XX d 99 73 [some (.ref a), v1, v2, v3, v4, v5, v6] st A Q ↔ XX d 99 74 [some (.ref a), v1, v2, v3, v4, v5, v6] (.ref a :: st) A Q := c_lcl i_99_73 rfl rfl
theorem q_99_74 : XX d 99 74 [v0, v1, v2, v3, v4, v5, v6] (.ref a :: st) (mk S I L R G) Q ↔ S a = some (.inr 10) ∧ XX d 99 77 [v0, v1, v2, v3, v4, v5, v6] (.ref (a + 1) :: st) (mk S I L R G) Q := r_gf i_99_74 rfl (by decide) rfl
theorem q_99_77 : XX d 99 77 [v0, v1, v2, v3, v4, some (.int x), v6] st A Q ↔ XX d 99 79 [v0, v1, v2, v3, v4, some (.int x), v6] (.int x :: st) A Q := c_lcl i_99_77 rfl rfl
theorem q_99_79 : XX d 99 79 [v0, v1, some (.int x), v3, v4, v5, v6] st A Q ↔ XX d 99 80 [v0, v1, some (.int x), v3, v4, v5, v6] (.int x :: st) A Q := c_lcl i_99_79 rfl rfl
theorem q_99_80 : XX d 99 80 [v0, v1, v2, v3, v4, v5, v6] (.int y :: .int x :: .ref a :: st) (mk S I L R G) Q ↔ inA (S a) ok_0 x ∧ XX d 99 81 [v0, v1, v2, v3, v4, v5, v6] st (mk S (wr I a (up (I a) (ix x) y)) L R G) Q := r_ias i_99_80
theorem q_99_81 : XX d 99 81 [some (.ref a), v1, v2, v3, v4, v5, v6] st A Q ↔ XX d 99 82 [some (.ref a), v1, v2, v3, v4, v5, v6] (.ref a :: st) A Q := c_lcl i_99_81 rfl rfl
theorem q_99_82 : XX d 99 82 [v0, v1, v2, v3, v4, v5, v6] (.ref a :: st) (mk S I L R G) Q ↔ S a = some (.inr 10) ∧ XX d 99 85 [v0, v1, v2, v3, v4, v5, v6] (.ref (a + 2) :: st) (mk S I L R G) Q := r_gf i_99_82 rfl (by decide) rfl
theorem q_99_85 : XX d 99 85 [v0, v1, v2, v3, v4, some (.int x), v6] st A Q ↔ XX d 99 87 [v0, v1, v2, v3, v4, some (.int x), v6] (.int x :: st) A Q := c_lcl i_99_85 rfl rfl
theorem q_99_87 : XX d 99 87 [v0, v1, v2, some (.int x), v4, v5, v6] st A Q ↔ XX d 99 88 [v0, v1, v2, some (.int x), v4, v5, v6] (.int x :: st) A Q := c_lcl i_99_87 rfl rfl
theorem q_99_88 : XX d 99 88 [v0, v1, v2, v3, v4, v5, v6] (.int y :: .int x :: .ref a :: st) (mk S I L R G) Q ↔ inA (S a) ok_0 x ∧ XX d 99 89 [v0, v1, v2, v3, v4, v5, v6] st (mk S (wr I a (up (I a) (ix x) y)) L R G) Q := r_ias i_99_88
theorem q_99_89 : XX d 99 89 [some (.ref a), v1, v2, v3, v4, v5, v6] st A Q ↔ XX d 99 90 [some (.ref a), v1, v2, v3, v4, v5, v6] (.ref a :: st) A Q := c_lcl i_99_89 rfl rfl
theorem q_99_90 : XX d 99 90 [v0, v1, v2, v3, v4, v5, v6] (.ref a :: st) (mk S I L R G) Q ↔ S a = some (.inr 10) ∧ XX d 99 93 [v0, v1, v2, v3, v4, v5, v6] (.ref (a + 3) :: st) (mk S I L R G) Q := r_gf i_99_90 rfl (by decide) rfl
theorem q_99_93 : XX d 99 93 [v0, v1, v2, v3, v4, some (.int x), v6] st A Q ↔ XX d 99 95 [v0, v1, v2, v3, v4, some (.int x), v6] (.int x :: st) A Q := c_lcl i_99_93 rfl rfl
theorem q_99_95 : XX d 99 95 [v0, v1, v2, v3, v4, v5, v6] st A Q ↔ XX d 99 96 [v0, v1, v2, v3, v4, v5, v6] (.int (w 1) :: st) A Q := c_stk i_99_95 rfl
theorem q_99_96 : XX d 99 96 [v0, v1, v2, v3, v4, v5, v6] (.int y :: .int x :: .ref a :: st) (mk S I L R G) Q ↔ inA (S a) ok_0 x ∧ XX d 99 97 [v0, v1, v2, v3, v4, v5, v6] st (mk S (wr I a (up (I a) (ix x) y)) L R G) Q := r_ias i_99_96
theorem q_99_97 : XX d 99 97 [some (.ref a), v1, v2, v3, v4, v5, v6] st A Q ↔ XX d 99 98 [some (.ref a), v1, v2, v3, v4, v5, v6] (.ref a :: st) A Q := c_lcl i_99_97 rfl rfl
theorem q_99_98 : XX d 99 98 [v0, v1, v2, v3, v4, v5, v6] (.ref a1 :: st) A Q ↔ XX d 99 99 [v0, v1, v2, v3, v4, v5, v6] (.ref a1 :: .ref a1 :: st) A Q := c_stk i_99_98 rfl
theorem q_99_99 : XX d 99 99 [v0, v1, v2, v3, v4, v5, v6] (.ref a :: st) (mk S I L R G) Q ↔ S a = some (.inr 10) ∧ XX d 99 102 [v0, v1, v2, v3, v4, v5, v6] (.int (I a 3) :: st) (mk S I L R G) Q := r_gf i_99_99 rfl (by decide) rfl
theorem q_99_102 : XX d 99 102 [v0, v1, v2, v3, v4, v5, v6] st A Q ↔ XX d 99 103 [v0, v1, v2, v3, v4, v5, v6] (.int (w 1) :: st) A Q := c_stk i_99_102 rfl
theorem q_99_103 : XX d 99 103 [v0, v1, v2, v3, v4, v5, v6] (.int y :: .int x :: st) A Q ↔ XX d 99 104 [v0, v1, v2, v3, v4, v5, v6] (.int (x + y) :: st) A Q := c_stk i_99_103 rfl
theorem q_99_104 : XX d 99 104 [v0, v1, v2, v3, v4, v5, v6] (.int x :: .ref a :: st) (mk S I L R G) Q ↔ S a = some (.inr 10) ∧ XX d 99 107 [v0, v1, v2, v3, v4, v5, v6] st (mk S (wr I a (up (I a) 3 x)) L R G) Q := r_pf i_99_104 rfl (by decide) rfl rfl rfl
theorem q_99_107 : XX d 99 107 [v0, v1, v2, v3, v4, v5, v6] [] A Q ↔ Q (.inl none) A := e_retN i_99_107 rfl
theorem q_99_108 : XX d 99 108 [v0, some (.ref a), v2, v3, v4, v5, v6] st A Q ↔ XX d 99 109 [v0, some (.ref a), v2, v3, v4, v5, v6] (.ref a :: st) A Q := c_lcl i_99_108 rfl rfl
theorem q_99_109 : XX d 99 109 [some (.ref a), v1, v2, v3, v4, v5, v6] st A Q ↔ XX d 99 110 [some (.ref a), v1, v2, v3, v4, v5, v6] (.ref a :: st) A Q := c_lcl i_99_109 rfl rfl
theorem q_99_110 : XX d 99 110 [v0, v1, v2, v3, v4, v5, v6] (.ref a :: st) (mk S I L R G) Q ↔ S a = some (.inr 10) ∧ XX d 99 113 [v0, v1, v2, v3, v4, v5, v6] (.ref (a + 1) :: st) (mk S I L R G) Q := r_gf i_99_110 rfl (by decide) rfl
theorem q_99_113 : XX d 99 113 [v0, v1, v2, v3, v4, some (.int x), v6] st A Q ↔ XX d 99 115 [v0, v1, v2, v3, v4, some (.int x), v6] (.int x :: st) A Q := c_lcl i_99_113 rfl rfl
theorem q_99_115 : XX d 99 115 [v0, v1, v2, v3, v4, v5, v6] (.int x :: .ref a :: st) (mk S I L R G) Q ↔ inA (S a) ok_i x ∧ XX d 99 116 [v0, v1, v2, v3, v4, v5, v6] (.int (I a (ix x)) :: st) (mk S I L R G) Q := r_ia i_99_115
theorem q_99_116 : XX d 99 116 [some (.ref a), v1, v2, v3, v4, v5, v6] st A Q ↔ XX d 99 117 [some (.ref a), v1, v2, v3, v4, v5, v6] (.ref a :: st) A Q := c_lcl i_99_116 rfl rfl
theorem q_99_117 : XX d 99 117 [v0, v1, v2, v3, v4, v5, v6] (.ref a :: st) (mk S I L R G) Q ↔ S a = some (.inr 10) ∧ XX d 99 120 [v0, v1, v2, v3, v4, v5, v6] (.ref (a + 2) :: st) (mk S I L R G) Q := r_gf i_99_117 rfl (by decide) rfl
theorem q_99_120 : XX d 99 120 [v0, v1, v2, v3, v4, some (.int x), v6] st A Q ↔ XX d 99 122 [v0, v1, v2, v3, v4, some (.int x), v6] (.int x :: st) A Q := c_lcl i_99_120 rfl rfl
theorem q_99_122 : XX d 99 122 [v0, v1, v2, v3, v4, v5, v6] (.int x :: .ref a :: st) (mk S I L R G) Q ↔ inA (S a) ok_i x ∧ XX d 99 123 [v0, v1, v2, v3, v4, v5, v6] (.int (I a (ix x)) :: st) (mk S I L R G) Q := r_ia i_99_122
theorem q_99_123 : XX d 99 123 [v0, some (.ref a), v2, v3, v4, v5, v6] st A Q ↔ XX d 99 124 [v0, some (.ref a), v2, v3, v4, v5, v6] (.ref a :: st) A Q := c_lcl i_99_123 rfl rfl
theorem q_99_124 : XX d 99 124 [v0, v1, some (.int x), v3, v4, v5, v6] st A Q ↔ XX d 99 125 [v0, v1, some (.int x), v3, v4, v5, v6] (.int x :: st) A Q := c_lcl i_99_124 rfl rfl
theorem q_99_125 : XX d 99 125 [v0, v1, v2, some (.int x), v4, v5, v6] st A Q ↔ XX d 99 126 [v0, v1, v2, some (.int x), v4, v5, v6] (.int x :: st) A Q := c_lcl i_99_125 rfl rfl
theorem q_99_126 : XX (d + 1) 99 126 [v0, v1, v2, v3, v4, v5, v6] [.int x5, .int x4, .ref a3, .int x2, .int x1, .ref a0] A Q ↔ XC d 151 [.ref a0, .int x1, .int x2, .ref a3, .int x4, .int x5] A (XK (d + 1) 99 126 [v0, v1, v2, v3, v4, v5, v6] [] Q) := c_callS i_99_126 rfl rfl rfl rfl (Nat.le_of_ble_eq_true rfl) (Nat.le_of_ble_eq_true rfl)
theorem q_99_129 : XX d 99 129 [v0, v1, v2, v3, v4, v5, v6] (.int x :: st) A Q ↔ if x = w 0 then XX d 99 132 [v0, v1, v2, v3, v4, v5, v6] st A Q else XX d 99 144 [v0, v1, v2, v3, v4, v5, v6] st A Q := z_ne i_99_129 rfl rfl rfl
theorem q_99_132 : XX d 99 132 [some (.ref a), v1, v2, v3, v4, v5, v6] st A Q ↔ XX d 99 133 [some (.ref a), v1, v2, v3, v4, v5, v6] (.ref a :: st) A Q := c_lcl i_99_132 rfl rfl
theorem q_99_133 : XX d 99 133 [v0, v1, v2, v3, v4, v5, v6] (.ref a :: st) (mk S I L R G) Q ↔ S a = some (.inr 10) ∧ XX d 99 136 [v0, v1, v2, v3, v4, v5, v6] (.ref (a + 3) :: st) (mk S I L R G) Q := r_gf i_99_133 rfl (by decide) rfl
theorem q_99_136 : XX d 99 136 [v0, v1, v2, v3, v4, some (.int x), v6] st A Q ↔ XX d 99 138 [v0, v1, v2, v3, v4, some (.int x), v6] (.int x :: st) A Q := c_lcl i_99_136 rfl rfl
theorem q_99_138 : XX d 99 138 [v0, v1, v2, v3, v4, v5, v6] (.int x1 :: .ref a2 :: st) A Q ↔ XX d 99 139 [v0, v1, v2, v3, v4, v5, v6] (.int x1 :: .ref a2 :: .int x1 :: .ref a2 :: st) A Q := c_stk i_99_138 rfl
theorem q_99_139 : XX d 99 139 [v0, v1, v2, v3, v4, v5, v6] (.int x :: .ref a :: st) (mk S I L R G) Q ↔ inA (S a) ok_i x ∧ XX d 99 140 [v0, v1, v2, v3, v4, v5, v6] (.int (I a (ix x)) :: st) (mk S I L R G) Q := r_ia i_99_139
theorem q_99_140 : XX d 99 140 [v0, v1, v2, v3, v4, v5, v6] st A Q ↔ XX d 99 141 [v0, v1, v2, v3, v4, v5, v6] (.int (w 1) :: st) A Q := c_stk i_99_140 rfl
theorem q_99_141 : XX d 99 141 [v0, v1, v2, v3, v4, v5, v6] (.int y :: .int x :: st) A Q ↔ XX d 99 142 [v0, v1, v2, v3, v4, v5, v6] (.int (x + y) :: st) A Q := c_stk i_99_141 rfl
theorem q_99_142 : XX d 99 142 [v0, v1, v2, v3, v4, v5, v6] (.int y :: .int x :: .ref a :: st) (mk S I L R G) Q ↔ inA (S a) ok_0 x ∧ XX d 99 143 [v0, v1, v2, v3, v4, v5, v6] st (mk S (wr I a (up (I a) (ix x) y)) L R G) Q := r_ias i_99_142
theorem q_99_143 : XX d 99 143 [v0, v1, v2, v3, v4, v5, v6] [] A Q ↔ Q (.inl none) A := e_retN i_99_143 rfl
theorem q_99_144 : XX d 99 144 [v0, v1, v2, v3, v4, some (.int x), v6] st A Q ↔ XX d 99 146 [v0, v1, v2, v3, v4, some (.int x), v6] (.int x :: st) A Q := c_lcl i_99_144 rfl rfl
theorem q_99_146 : XX d 99 146 [v0, v1, v2, v3, v4, v5, v6] st A Q ↔ XX d 99 147 [v0, v1, v2, v3, v4, v5, v6] (.int (w 1) :: st) A Q := c_stk i_99_146 rfl
theorem q_99_147 : XX d 99 147 [v0, v1, v2, v3, v4, v5, v6] (.int y :: .int x :: st) A Q ↔ XX d 99 148 [v0, v1, v2, v3, v4, v5, v6] (.int (x + y) :: st) A Q := c_stk i_99_147 rfl
theorem q_99_148 : XX d 99 148 [v0, v1, v2, v3, v4, v5, v6] st A Q ↔ XX d 99 151 [v0, v1, v2, v3, v4, v5, v6] (.int (w 32767) :: st) A Q := c_stk i_99_148 rfl
theorem q_99_151 : XX d 99 151 [v0, v1, v2, v3, v4, v5, v6] (.int y :: .int x :: st) A Q ↔ XX d 99 152 [v0, v1, v2, v3, v4, v5, v6] (.int (x &&& y) :: st) A Q := c_stk i_99_151 rfl
theorem q_99_152 : XX d 99 152 [v0, v1, v2, v3, some (.int z), v5, v6] (.int x :: st) A Q ↔ XX d 99 154 [v0, v1, v2, v3, some (.int z), some (.int x), v6] st A Q := c_lcl i_99_152 rfl rfl
theorem q_99_154 : XX d 99 154 [v0, v1, v2, v3, v4, some (.int z), some (.int x)] st A Q ↔ XX d 99 157 [v0, v1, v2, v3, v4, some (.int z), some (.int (x + w 1))] st A Q := c_lcl i_99_154 rfl rfl
theorem q_99_157 : XX d 99 157 [v0, v1, v2, v3, v4, v5, v6] st A Q ↔ XX d 99 56 [v0, v1, v2, v3, v4, v5, v6] st A Q := c_go i_99_157 rfl rfl
theorem q_99_160 : XX d 99 160 [v0, v1, v2, v3, v4, v5, v6] [] A Q ↔ Q (.inl none) A := e_retN i_99_160 rfl
theorem q_99_e : XC d 99 [.ref a0, .ref a1, .int x2, .int x3] A Q ↔ XX d 99 0 [some (.ref a0), some (.ref a1), some (.int x2), some (.int x3), none, none, none] [] A Q := Iff.rfl
theorem i_100_0 : t_ins 100 0 = some (.aload_n 0) := by decide +kernel
theorem i_100_1 : t_ins 100 1 = some (.iconst (-1)) := by decide +kernel
theorem i_100_2 : t_ins 100 2 = some (.putfield 26) := by decide +kernel
theorem i_100_5 : t_ins 100 5 = some (.iconst 0) := by decide +kernel
theorem i_100_6 : t_ins 100 6 = some (.istore_n 2) := by decide +kernel
theorem i_100_7 : t_ins 100 7 = some (.iload_n 2) := by decide +kernel
theorem i_100_8 : t_ins 100 8 = some (.ldc 11) := by decide +kernel
theorem i_100_10 : t_ins 100 10 = some (.if_icmp .ge 44) := by decide +kernel
theorem i_100_13 : t_ins 100 13 = some (.aload_n 0) := by decide +kernel
theorem i_100_14 : t_ins 100 14 = some (.getfield 19) := by decide +kernel
theorem i_100_17 : t_ins 100 17 = some (.iload_n 2) := by decide +kernel
theorem i_100_18 : t_ins 100 18 = some (.iaload) := by decide +kernel
theorem i_100_19 : t_ins 100 19 = some (.ifCond .le 29) := by decide +kernel
theorem i_100_22 : t_ins 100 22 = some (.aload_n 0) := by decide +kernel
theorem i_100_23 : t_ins 100 23 = some (.getfield 26) := by decide +kernel
theorem i_100_26 : t_ins 100 26 = some (.iconst (-1)) := by decide +kernel
theorem i_100_27 : t_ins 100 27 = some (.if_icmp .eq 16) := by decide +kernel
theorem i_100_30 : t_ins 100 30 = some (.aload_n 0) := by decide +kernel
theorem i_100_31 : t_ins 100 31 = some (.aload_n 1) := by decide +kernel
theorem i_100_32 : t_ins 100 32 = some (.iload_n 2) := by decide +kernel
theorem i_100_33 : t_ins 100 33 = some (.aload_n 0) := by decide +kernel
theorem i_100_34 : t_ins 100 34 = some (.getfield 26) := by decide +kernel
theorem i_100_37 : t_ins 100 37 = some (.invokevirtual 79) := by decide +kernel
theorem i_100_40 : t_ins 100 40 = some (.ifCond .eq 8) := by decide +kernel
theorem i_100_43 : t_ins 100 43 = some (.aload_n 0) := by decide +kernel
theorem i_100_44 : t_ins 100 44 = some (.iload_n 2) := by decide +kernel
theorem i_100_45 : t_ins 100 45 = some (.putfield 26) := by decide +kernel
theorem i_100_48 : t_ins 100 48 = some (.iinc 2 1) := by decide +kernel
theorem i_100_51 : t_ins 100 51 = some (.goto (-44)) := by decide +kernel
theorem i_100_54 : t_ins 100 54 = some (.return_) := by decide +kernel
theorem q_100_0 : XX d 100 0 [some (.ref a), v1, v2] st A Q ↔ XX d 100 1 [some (.ref a), v1, v2] (.ref a :: st) A Q := c_lcl i_100_0 rfl rfl
theorem q_100_1 : XX d 100 1 [v0, v1, v2] st A Q ↔ XX d 100 2 [v0, v1, v2] (.int (w (-1)) :: st) A Q := c_stk i_100_1 rfl
theorem q_100_2 : XX d 100 2 [v0, v1, v2] (.int x :: .ref a :: st) (mk S I L R G) Q ↔ S a = some (.inr 10) ∧ XX d 100 5 [v0, v1, v2] st (mk S (wr I a (up (I a) 4 x)) L R G) Q := r_pf i_100_2 rfl (by decide) rfl rfl rfl
theorem q_100_5 : XX d 100 5 [v0, v1, v2] st A Q ↔ XX d 100 6 [v0, v1, v2] (.int (w 0) :: st) A Q := c_stk i_100_5 rfl
theorem q_100_6 : XX d 100 6 [v0, some (.ref b), v2] (.int x :: st) A Q ↔ XX d 100 7 [v0, some (.ref b), some (.int x)] st A Q := c_lcl i_100_6 rfl rfl
theorem q_100_7 : XX d 100 7 [v0, v1, some (.int x)] st A Q ↔ XX d 100 8 [v0, v1, some (.int x)] (.int x :: st) A Q := c_lcl i_100_7 rfl rfl
theorem q_100_8 : XX d 100 8 [v0, v1, v2] st A Q ↔ XX d 100 10 [v0, v1, v2] (.int (w 32768) :: st) A Q := r_ldc i_100_8 rfl
theorem q_100_10 : XX d 100 10 [v0, v1, v2] (.int y :: .int x :: st) A Q ↔ if x < y then XX d 100 13 [v0, v1, v2] st A Q else XX d 100 54 [v0, v1, v2] st A Q := b_ge i_100_10 rfl rfl rfl
theorem q_100_13 : XX d 100 13 [some (.ref a), v1, v2] st A Q ↔ XX d 100 14 [some (.ref a), v1, v2] (.ref a :: st) A Q := c_lcl i_100_13 rfl rfl
theorem q_100_14 : XX d 100 14 [v0, v1, v2] (.ref a :: st) (mk S I L R G) Q ↔ S a = some (.inr 10) ∧ XX d 100 17 [v0, v1, v2] (.ref (a + 3) :: st) (mk S I L R G) Q := r_gf i_100_14 rfl (by decide) rfl
theorem q_100_17 : XX d 100 17 [v0, v1, some (.int x)] st A Q ↔ XX d 100 18 [v0, v1, some (.int x)] (.int x :: st) A Q := c_lcl i_100_17 rfl rfl
theorem q_100_18 : XX d 100 18 [v0, v1, v2] (.int x :: .ref a :: st) (mk S I L R G) Q ↔ inA (S a) ok_i x ∧ XX d 100 19 [v0, v1, v2] (.int (I a (ix x)) :: st) (mk S I L R G) Q := r_ia i_100_18
theorem q_100_19 : XX d 100 19 [v0, v1, v2] (.int x :: st) A Q ↔ if w 0 < x then XX d 100 22 [v0, v1, v2] st A Q else XX d 100 48 [v0, v1, v2] st A Q := z_le i_100_19 rfl rfl rfl
theorem q_100_22 : XX d 100 22 [some (.ref a), v1, v2] st A Q ↔ XX d 100 23 [some (.ref a), v1, v2] (.ref a :: st) A Q := c_lcl i_100_22 rfl rfl
theorem q_100_23 : XX d 100 23 [v0, v1, v2] (.ref a :: st) (mk S I L R G) Q ↔ S a = some (.inr 10) ∧ XX d 100 26 [v0, v1, v2] (.int (I a 4) :: st) (mk S I L R G) Q := r_gf i_100_23 rfl (by decide) rfl
theorem q_100_26 : XX d 100 26 [v0, v1, v2] st A Q ↔ XX d 100 27 [v0, v1, v2] (.int (w (-1)) :: st) A Q := c_stk i_100_26 rfl
theorem q_100_27 : XX d 100 27 [v0, v1, v2] (.int y :: .int x :: st) A Q ↔ if x = y then XX d 100 43 [v0, v1, v2] st A Q else XX d 100 30 [v0, v1, v2] st A Q := b_eq i_100_27 rfl rfl rfl
theorem q_100_30 : XX d 100 30 [some (.ref a), v1, v2] st A Q ↔ XX d 100 31 [some (.ref a), v1, v2] (.ref a :: st) A Q := c_lcl i_100_30 rfl rfl
theorem q_100_31 : XX d 100 31 [v0, some (.ref a), v2] st A Q ↔ XX d 100 32 [v0, some (.ref a), v2] (.ref a :: st) A Q := c_lcl i_100_31 rfl rfl
theorem q_100_32 : XX d 100 32 [v0, v1, some (.int x)] st A Q ↔ XX d 100 33 [v0, v1, some (.int x)] (.int x :: st) A Q := c_lcl i_100_32 rfl rfl
theorem q_100_33 : XX d 100 33 [some (.ref a), v1, v2] st A Q ↔ XX d 100 34 [some (.ref a), v1, v2] (.ref a :: st) A Q := c_lcl i_100_33 rfl rfl
theorem q_100_34 : XX d 100 34 [v0, v1, v2] (.ref a :: st) (mk S I L R G) Q ↔ S a = some (.inr 10) ∧ XX d 100 37 [v0, v1, v2] (.int (I a 4) :: st) (mk S I L R G) Q := r_gf i_100_34 rfl (by decide) rfl
theorem q_100_37 : XX (d + 1) 100 37 [v0, v1, v2] [.int x3, .int x2, .ref a1, .ref a0] (mk S I L R G) Q ↔ S a0 = some (.inr 10) ∧ XC d 101 [.ref a0, .ref a1, .int x2, .int x3] (mk S I L R G) (XK (d + 1) 100 37 [v0, v1, v2] [] Q) := c_callV i_100_37 rfl rfl rfl rfl (Nat.le_of_ble_eq_true rfl) (Nat.le_of_ble_eq_true rfl) rfl
theorem q_100_40 : XX d 100 40 [v0, v1, v2] (.int x :: st) A Q ↔ if x = w 0 then XX d 100 48 [v0, v1, v2] st A Q else XX d 100 43 [v0, v1, v2] st A Q := z_eq i_100_40 rfl rfl rfl
theorem q_100_43 : XX d 100 43 [some (.ref a), v1, v2] st A Q ↔ XX d 100 44 [some (.ref a), v1, v2] (.ref a :: st) A Q := c_lcl i_100_43 rfl rfl
theorem q_100_44 : XX d 100 44 [v0, v1, some (.int x)] st A Q ↔ XX d 100 45 [v0, v1, some (.int x)] (.int x :: st) A Q := c_lcl i_100_44 rfl rfl
theorem q_100_45 : XX d 100 45 [v0, v1, v2] (.int x :: .ref a :: st) (mk S I L R G) Q ↔ S a = some (.inr 10) ∧ XX d 100 48 [v0, v1, v2] st (mk S (wr I a (up (I a) 4 x)) L R G) Q := r_pf i_100_45 rfl (by decide) rfl rfl rfl
theorem q_100_48 : XX d 100 48 [v0, some (.ref b), some (.int x)] st A Q ↔ XX d 100 51 [v0, some (.ref b), some (.int (x + w 1))] st A Q := c_lcl i_100_48 rfl rfl
theorem q_100_51 : XX d 100 51 [v0, v1, v2] st A Q ↔ XX d 100 7 [v0, v1, v2] st A Q := c_go i_100_51 rfl rfl
theorem q_100_54 : XX d 100 54 [v0, v1, v2] [] A Q ↔ Q (.inl none) A := e_retN i_100_54 rfl
theorem q_100_e : XC d 100 [.ref a0, .ref a1] A Q ↔ XX d 100 0 [some (.ref a0), some (.ref a1), none] [] A Q := Iff.rfl
theorem i_101_0 : t_ins 101 0 = some (.aload_n 0) := by decide +kernel
theorem i_101_1 : t_ins 101 1 = some (.getfield 19) := by decide +kernel
theorem i_101_4 : t_ins 101 4 = some (.iload_n 2) := by decide +kernel
theorem i_101_5 : t_ins 101 5 = some (.iaload) := by decide +kernel
theorem i_101_6 : t_ins 101 6 = some (.aload_n 0) := by decide +kernel
theorem i_101_7 : t_ins 101 7 = some (.getfield 19) := by decide +kernel
theorem i_101_10 : t_ins 101 10 = some (.iload_n 3) := by decide +kernel
theorem i_101_11 : t_ins 101 11 = some (.iaload) := by decide +kernel
theorem i_101_12 : t_ins 101 12 = some (.if_icmp .eq 24) := by decide +kernel
theorem i_101_15 : t_ins 101 15 = some (.aload_n 0) := by decide +kernel
theorem i_101_16 : t_ins 101 16 = some (.getfield 19) := by decide +kernel
theorem i_101_19 : t_ins 101 19 = some (.iload_n 2) := by decide +kernel
theorem i_101_20 : t_ins 101 20 = some (.iaload) := by decide +kernel
theorem i_101_21 : t_ins 101 21 = some (.aload_n 0) := by decide +kernel
theorem i_101_22 : t_ins 101 22 = some (.getfield 19) := by decide +kernel
theorem i_101_25 : t_ins 101 25 = some (.iload_n 3) := by decide +kernel
theorem i_101_26 : t_ins 101 26 = some (.iaload) := by decide +kernel
theorem i_101_27 : t_ins 101 27 = some (.if_icmp .le 7) := by decide +kernel
theorem i_101_30 : t_ins 101 30 = some (.iconst 1) := by decide +kernel
theorem i_101_31 : t_ins 101 31 = some (.goto 4) := by decide +kernel
theorem i_101_34 : t_ins 101 34 = some (.iconst 0) := by decide +kernel
theorem i_101_35 : t_ins 101 35 = some (.ireturn) := by decide +kernel
theorem i_101_36 : t_ins 101 36 = some (.aload_n 1) := by decide +kernel
theorem i_101_37 : t_ins 101 37 = some (.aload_n 0) := by decide +kernel
theorem i_101_38 : t_ins 101 38 = some (.getfield 12) := by decide +kernel
theorem i_101_41 : t_ins 101 41 = some (.iload_n 2) := by decide +kernel
theorem i_101_42 : t_ins 101 42 = some (.iaload) := by decide +kernel
theorem i_101_43 : t_ins 101 43 = some (.aload_n 0) := by decide +kernel
theorem i_101_44 : t_ins 101 44 = some (.getfield 16) := by decide +kernel
theorem i_101_47 : t_ins 101 47 = some (.iload_n 2) := by decide +kernel
theorem i_101_48 : t_ins 101 48 = some (.iaload) := by decide +kernel
theorem i_101_49 : t_ins 101 49 = some (.aload_n 1) := by decide +kernel
theorem i_101_50 : t_ins 101 50 = some (.aload_n 0) := by decide +kernel
theorem i_101_51 : t_ins 101 51 = some (.getfield 12) := by decide +kernel
theorem i_101_54 : t_ins 101 54 = some (.iload_n 3) := by decide +kernel
theorem i_101_55 : t_ins 101 55 = some (.iaload) := by decide +kernel
theorem i_101_56 : t_ins 101 56 = some (.aload_n 0) := by decide +kernel
theorem i_101_57 : t_ins 101 57 = some (.getfield 16) := by decide +kernel
theorem i_101_60 : t_ins 101 60 = some (.iload_n 3) := by decide +kernel
theorem i_101_61 : t_ins 101 61 = some (.iaload) := by decide +kernel
theorem i_101_62 : t_ins 101 62 = some (.invokestatic 75) := by decide +kernel
theorem i_101_65 : t_ins 101 65 = some (.ifCond .ge 7) := by decide +kernel
theorem i_101_68 : t_ins 101 68 = some (.iconst 1) := by decide +kernel
theorem i_101_69 : t_ins 101 69 = some (.goto 4) := by decide +kernel
theorem i_101_72 : t_ins 101 72 = some (.iconst 0) := by decide +kernel
theorem i_101_73 : t_ins 101 73 = some (.ireturn) := by decide +kernel
theorem q_101_0 : XX d 101 0 [some (.ref a), v1, v2, v3] st A Q ↔ XX d 101 1 [some (.ref a), v1, v2, v3] (.ref a :: st) A Q := c_lcl i_101_0 rfl rfl
theorem q_101_1 : XX d 101 1 [v0, v1, v2, v3] (.ref a :: st) (mk S I L R G) Q ↔ S a = some (.inr 10) ∧ XX d 101 4 [v0, v1, v2, v3] (.ref (a + 3) :: st) (mk S I L R G) Q := r_gf i_101_1 rfl (by decide) rfl
theorem q_101_4 : XX d 101 4 [v0, v1, some (.int x), v3] st A Q ↔ XX d 101 5 [v0, v1, some (.int x), v3] (.int x :: st) A Q := c_lcl i_101_4 rfl rfl
theorem q_101_5 : XX d 101 5 [v0, v1, v2, v3] (.int x :: .ref a :: st) (mk S I L R G) Q ↔ inA (S a) ok_i x ∧ XX d 101 6 [v0, v1, v2, v3] (.int (I a (ix x)) :: st) (mk S I L R G) Q := r_ia i_101_5
theorem q_101_6 : XX d 101 6 [some (.ref a), v1, v2, v3] st A Q ↔ XX d 101 7 [some (.ref a), v1, v2, v3] (.ref a :: st) A Q := c_lcl i_101_6 rfl rfl
theorem q_101_7 : XX d 101 7 [v0, v1, v2, v3] (.ref a :: st) (mk S I L R G) Q ↔ S a = some (.inr 10) ∧ XX d 101 10 [v0, v1, v2, v3] (.ref (a + 3) :: st) (mk S I L R G) Q := r_gf i_101_7 rfl (by decide) rfl
theorem q_101_10 : XX d 101 10 [v0, v1, v2, some (.int x)] st A Q ↔ XX d 101 11 [v0, v1, v2, some (.int x)] (.int x :: st) A Q := c_lcl i_101_10 rfl rfl
theorem q_101_11 : XX d 101 11 [v0, v1, v2, v3] (.int x :: .ref a :: st) (mk S I L R G) Q ↔ inA (S a) ok_i x ∧ XX d 101 12 [v0, v1, v2, v3] (.int (I a (ix x)) :: st) (mk S I L R G) Q := r_ia i_101_11
theorem q_101_12 : XX d 101 12 [v0, v1, v2, v3] (.int y :: .int x :: st) A Q ↔ if x = y then XX d 101 36 [v0, v1, v2, v3] st A Q else XX d 101 15 [v0, v1, v2, v3] st A Q := b_eq i_101_12 rfl rfl rfl
theorem q_101_15 : XX d 101 15 [some (.ref a), v1, v2, v3] st A Q ↔ XX d 101 16 [some (.ref a), v1, v2, v3] (.ref a :: st) A Q := c_lcl i_101_15 rfl rfl
theorem q_101_16 : XX d 101 16 [v0, v1, v2, v3] (.ref a :: st) (mk S I L R G) Q ↔ S a = some (.inr 10) ∧ XX d 101 19 [v0, v1, v2, v3] (.ref (a + 3) :: st) (mk S I L R G) Q := r_gf i_101_16 rfl (by decide) rfl
theorem q_101_19 : XX d 101 19 [v0, v1, some (.int x), v3] st A Q ↔ XX d 101 20 [v0, v1, some (.int x), v3] (.int x :: st) A Q := c_lcl i_101_19 rfl rfl
theorem q_101_20 : XX d 101 20 [v0, v1, v2, v3] (.int x :: .ref a :: st) (mk S I L R G) Q ↔ inA (S a) ok_i x ∧ XX d 101 21 [v0, v1, v2, v3] (.int (I a (ix x)) :: st) (mk S I L R G) Q := r_ia i_101_20
theorem q_101_21 : XX d 101 21 [some (.ref a), v1, v2, v3] st A Q ↔ XX d 101 22 [some (.ref a), v1, v2, v3] (.ref a :: st) A Q := c_lcl i_101_21 rfl rfl
theorem q_101_22 : XX d 101 22 [v0, v1, v2, v3] (.ref a :: st) (mk S I L R G) Q ↔ S a = some (.inr 10) ∧ XX d 101 25 [v0, v1, v2, v3] (.ref (a + 3) :: st) (mk S I L R G) Q := r_gf i_101_22 rfl (by decide) rfl
theorem q_101_25 : XX d 101 25 [v0, v1, v2, some (.int x)] st A Q ↔ XX d 101 26 [v0, v1, v2, some (.int x)] (.int x :: st) A Q := c_lcl i_101_25 rfl rfl
theorem q_101_26 : XX d 101 26 [v0, v1, v2, v3] (.int x :: .ref a :: st) (mk S I L R G) Q ↔ inA (S a) ok_i x ∧ XX d 101 27 [v0, v1, v2, v3] (.int (I a (ix x)) :: st) (mk S I L R G) Q := r_ia i_101_26
theorem q_101_27 : XX d 101 27 [v0, v1, v2, v3] (.int y :: .int x :: st) A Q ↔ if y < x then XX d 101 30 [v0, v1, v2, v3] st A Q else XX d 101 34 [v0, v1, v2, v3] st A Q := b_le i_101_27 rfl rfl rfl
theorem q_101_30 : XX d 101 30 [v0, v1, v2, v3] st A Q ↔ XX d 101 31 [v0, v1, v2, v3] (.int (w 1) :: st) A Q := c_stk i_101_30 rfl
theorem q_101_31 : XX d 101 31 [v0, v1, v2, v3] st A Q ↔ XX d 101 35 [v0, v1, v2, v3] st A Q := c_go i_101_31 rfl rfl
theorem q_101_34 : XX d 101 34 [v0, v1, v2, v3] st A Q ↔ XX d 101 35 [v0, v1, v2, v3] (.int (w 0) :: st) A Q := c_stk i_101_34 rfl
theorem q_101_35 : XX d 101 35 [v0, v1, v2, v3] [.int x] A Q ↔ (x = w 0 ∨ x = w 1) ∧ Q (.inl (some (.int x))) A := e_retZ i_101_35 rfl
theorem q_101_36 : XX d 101 36 [v0, some (.ref a), v2, v3] st A Q ↔ XX d 101 37 [v0, some (.ref a), v2, v3] (.ref a :: st) A Q := c_lcl i_101_36 rfl rfl
theorem q_101_37 : XX d 101 37 [some (.ref a), v1, v2, v3] st A Q ↔ XX d 101 38 [some (.ref a), v1, v2, v3] (.ref a :: st) A Q := c_lcl i_101_37 rfl rfl
theorem q_101_38 : XX d 101 38 [v0, v1, v2, v3] (.ref a :: st) (mk S I L R G) Q ↔ S a = some (.inr 10) ∧ XX d 101 41 [v0, v1, v2, v3] (.ref (a + 1) :: st) (mk S I L R G) Q := r_gf i_101_38 rfl (by decide) rfl
theorem q_101_41 : XX d 101 41 [v0, v1, some (.int x), v3] st A Q ↔ XX d 101 42 [v0, v1, some (.int x), v3] (.int x :: st) A Q := c_lcl i_101_41 rfl rfl
theorem q_101_42 : XX d 101 42 [v0, v1, v2, v3] (.int x :: .ref a :: st) (mk S I L R G) Q ↔ inA (S a) ok_i x ∧ XX d 101 43 [v0, v1, v2, v3] (.int (I a (ix x)) :: st) (mk S I L R G) Q := r_ia i_101_42
theorem q_101_43 : XX d 101 43 [some (.ref a), v1, v2, v3] st A Q ↔ XX d 101 44 [some (.ref a), v1, v2, v3] (.ref a :: st) A Q := c_lcl i_101_43 rfl rfl
theorem q_101_44 : XX d 101 44 [v0, v1, v2, v3] (.ref a :: st) (mk S I L R G) Q ↔ S a = some (.inr 10) ∧ XX d 101 47 [v0, v1, v2, v3] (.ref (a + 2) :: st) (mk S I L R G) Q := r_gf i_101_44 rfl (by decide) rfl
theorem q_101_47 : XX d 101 47 [v0, v1, some (.int x), v3] st A Q ↔ XX d 101 48 [v0, v1, some (.int x), v3] (.int x :: st) A Q := c_lcl i_101_47 rfl rfl
theorem q_101_48 : XX d 101 48 [v0, v1, v2, v3] (.int x :: .ref a :: st) (mk S I L R G) Q ↔ inA (S a) ok_i x ∧ XX d 101 49 [v0, v1, v2, v3] (.int (I a (ix x)) :: st) (mk S I L R G) Q := r_ia i_101_48
theorem q_101_49 : XX d 101 49 [v0, some (.ref a), v2, v3] st A Q ↔ XX d 101 50 [v0, some (.ref a), v2, v3] (.ref a :: st) A Q := c_lcl i_101_49 rfl rfl
theorem q_101_50 : XX d 101 50 [some (.ref a), v1, v2, v3] st A Q ↔ XX d 101 51 [some (.ref a), v1, v2, v3] (.ref a :: st) A Q := c_lcl i_101_50 rfl rfl
theorem q_101_51 : XX d 101 51 [v0, v1, v2, v3] (.ref a :: st) (mk S I L R G) Q ↔ S a = some (.inr 10) ∧ XX d 101 54 [v0, v1, v2, v3] (.ref (a + 1) :: st) (mk S I L R G) Q := r_gf i_101_51 rfl (by decide) rfl
theorem q_101_54 : XX d 101 54 [v0, v1, v2, some (.int x)] st A Q ↔ XX d 101 55 [v0, v1, v2, some (.int x)] (.int x :: st) A Q := c_lcl i_101_54 rfl rfl
theorem q_101_55 : XX d 101 55 [v0, v1, v2, v3] (.int x :: .ref a :: st) (mk S I L R G) Q ↔ inA (S a) ok_i x ∧ XX d 101 56 [v0, v1, v2, v3] (.int (I a (ix x)) :: st) (mk S I L R G) Q := r_ia i_101_55
theorem q_101_56 : XX d 101 56 [some (.ref a), v1, v2, v3] st A Q ↔ XX d 101 57 [some (.ref a), v1, v2, v3] (.ref a :: st) A Q := c_lcl i_101_56 rfl rfl
theorem q_101_57 : XX d 101 57 [v0, v1, v2, v3] (.ref a :: st) (mk S I L R G) Q ↔ S a = some (.inr 10) ∧ XX d 101 60 [v0, v1, v2, v3] (.ref (a + 2) :: st) (mk S I L R G) Q := r_gf i_101_57 rfl (by decide) rfl
theorem q_101_60 : XX d 101 60 [v0, v1, v2, some (.int x)] st A Q ↔ XX d 101 61 [v0, v1, v2, some (.int x)] (.int x :: st) A Q := c_lcl i_101_60 rfl rfl
theorem q_101_61 : XX d 101 61 [v0, v1, v2, v3] (.int x :: .ref a :: st) (mk S I L R G) Q ↔ inA (S a) ok_i x ∧ XX d 101 62 [v0, v1, v2, v3] (.int (I a (ix x)) :: st) (mk S I L R G) Q := r_ia i_101_61
theorem q_101_62 : XX (d + 1) 101 62 [v0, v1, v2, v3] [.int x5, .int x4, .ref a3, .int x2, .int x1, .ref a0] A Q ↔ XC d 151 [.ref a0, .int x1, .int x2, .ref a3, .int x4, .int x5] A (XK (d + 1) 101 62 [v0, v1, v2, v3] [] Q) := c_callS i_101_62 rfl rfl rfl rfl (Nat.le_of_ble_eq_true rfl) (Nat.le_of_ble_eq_true rfl)
theorem q_101_65 : XX d 101 65 [v0, v1, v2, v3] (.int x :: st) A Q ↔ if x < w 0 then XX d 101 68 [v0, v1, v2, v3] st A Q else XX d 101 72 [v0, v1, v2, v3] st A Q := z_ge i_101_65 rfl rfl rfl
theorem q_101_68 : XX d 101 68 [v0, v1, v2, v3] st A Q ↔ XX d 101 69 [v0, v1, v2, v3] (.int (w 1) :: st) A Q := c_stk i_101_68 rfl
theorem q_101_69 : XX d 101 69 [v0, v1, v2, v3] st A Q ↔ XX d 101 73 [v0, v1, v2, v3] st A Q := c_go i_101_69 rfl rfl
theorem q_101_72 : XX d 101 72 [v0, v1, v2, v3] st A Q ↔ XX d 101 73 [v0, v1, v2, v3] (.int (w 0) :: st) A Q := c_stk i_101_72 rfl
theorem q_101_73 : XX d 101 73 [v0, v1, v2, v3] [.int x] A Q ↔ (x = w 0 ∨ x = w 1) ∧ Q (.inl (some (.int x))) A := e_retZ i_101_73 rfl
theorem q_101_e : XC d 101 [.ref a0, .ref a1, .int x2, .int x3] A Q ↔ XX d 101 0 [some (.ref a0), some (.ref a1), some (.int x2), some (.int x3)] [] A Q := Iff.rfl
theorem i_102_0 : t_ins 102 0 = some (.aload_n 0) := by decide +kernel
theorem i_102_1 : t_ins 102 1 = some (.getfield 26) := by decide +kernel
theorem i_102_4 : t_ins 102 4 = some (.iconst (-1)) := by decide +kernel
theorem i_102_5 : t_ins 102 5 = some (.if_icmp .ne 7) := by decide +kernel
theorem i_102_8 : t_ins 102 8 = some (.iconst 0) := by decide +kernel
theorem i_102_9 : t_ins 102 9 = some (.goto 12) := by decide +kernel
theorem i_102_12 : t_ins 102 12 = some (.aload_n 0) := by decide +kernel
theorem i_102_13 : t_ins 102 13 = some (.getfield 19) := by decide +kernel
theorem i_102_16 : t_ins 102 16 = some (.aload_n 0) := by decide +kernel
theorem i_102_17 : t_ins 102 17 = some (.getfield 26) := by decide +kernel
theorem i_102_20 : t_ins 102 20 = some (.iaload) := by decide +kernel
theorem i_102_21 : t_ins 102 21 = some (.ireturn) := by decide +kernel
theorem q_102_0 : XX d 102 0 [some (.ref a)] st A Q ↔ XX d 102 1 [some (.ref a)] (.ref a :: st) A Q := c_lcl i_102_0 rfl rfl
theorem q_102_1 : XX d 102 1 [v0] (.ref a :: st) (mk S I L R G) Q ↔ S a = some (.inr 10) ∧ XX d 102 4 [v0] (.int (I a 4) :: st) (mk S I L R G) Q := r_gf i_102_1 rfl (by decide) rfl
theorem q_102_4 : XX d 102 4 [v0] st A Q ↔ XX d 102 5 [v0] (.int (w (-1)) :: st) A Q := c_stk i_102_4 rfl
theorem q_102_5 : XX d 102 5 [v0] (.int y :: .int x :: st) A Q ↔ if x = y then XX d 102 8 [v0] st A Q else XX d 102 12 [v0] st A Q := b_ne i_102_5 rfl rfl rfl
theorem q_102_8 : XX d 102 8 [v0] st A Q ↔ XX d 102 9 [v0] (.int (w 0) :: st) A Q := c_stk i_102_8 rfl
theorem q_102_9 : XX d 102 9 [v0] st A Q ↔ XX d 102 21 [v0] st A Q := c_go i_102_9 rfl rfl
theorem q_102_12 : XX d 102 12 [some (.ref a)] st A Q ↔ XX d 102 13 [some (.ref a)] (.ref a :: st) A Q := c_lcl i_102_12 rfl rfl
theorem q_102_13 : XX d 102 13 [v0] (.ref a :: st) (mk S I L R G) Q ↔ S a = some (.inr 10) ∧ XX d 102 16 [v0] (.ref (a + 3) :: st) (mk S I L R G) Q := r_gf i_102_13 rfl (by decide) rfl
theorem q_102_16 : XX d 102 16 [some (.ref a)] st A Q ↔ XX d 102 17 [some (.ref a)] (.ref a :: st) A Q := c_lcl i_102_16 rfl rfl
theorem q_102_17 : XX d 102 17 [v0] (.ref a :: st) (mk S I L R G) Q ↔ S a = some (.inr 10) ∧ XX d 102 20 [v0] (.int (I a 4) :: st) (mk S I L R G) Q := r_gf i_102_17 rfl (by decide) rfl
theorem q_102_20 : XX d 102 20 [v0] (.int x :: .ref a :: st) (mk S I L R G) Q ↔ inA (S a) ok_i x ∧ XX d 102 21 [v0] (.int (I a (ix x)) :: st) (mk S I L R G) Q := r_ia i_102_20
theorem q_102_21 : XX d 102 21 [v0] [.int x] A Q ↔ Q (.inl (some (.int x))) A := e_retI i_102_21 rfl
theorem q_102_e : XC d 102 [.ref a0] A Q ↔ XX d 102 0 [some (.ref a0)] [] A Q := Iff.rfl
theorem i_103_0 : t_ins 103 0 = some (.aload_n 0) := by decide +kernel
theorem i_103_1 : t_ins 103 1 = some (.getfield 26) := by decide +kernel
theorem i_103_4 : t_ins 103 4 = some (.iconst (-1)) := by decide +kernel
theorem i_103_5 : t_ins 103 5 = some (.if_icmp .ne 7) := by decide +kernel
theorem i_103_8 : t_ins 103 8 = some (.iconst 0) := by decide +kernel
theorem i_103_9 : t_ins 103 9 = some (.goto 12) := by decide +kernel
theorem i_103_12 : t_ins 103 12 = some (.aload_n 0) := by decide +kernel
theorem i_103_13 : t_ins 103 13 = some (.getfield 16) := by decide +kernel
theorem i_103_16 : t_ins 103 16 = some (.aload_n 0) := by decide +kernel
theorem i_103_17 : t_ins 103 17 = some (.getfield 26) := by decide +kernel
theorem i_103_20 : t_ins 103 20 = some (.iaload) := by decide +kernel
theorem i_103_21 : t_ins 103 21 = some (.ireturn) := by decide +kernel
theorem q_103_0 : XX d 103 0 [some (.ref a)] st A Q ↔ XX d 103 1 [some (.ref a)] (.ref a :: st) A Q := c_lcl i_103_0 rfl rfl
theorem q_103_1 : XX d 103 1 [v0] (.ref a :: st) (mk S I L R G) Q ↔ S a = some (.inr 10) ∧ XX d 103 4 [v0] (.int (I a 4) :: st) (mk S I L R G) Q := r_gf i_103_1 rfl (by decide) rfl
theorem q_103_4 : XX d 103 4 [v0] st A Q ↔ XX d 103 5 [v0] (.int (w (-1)) :: st) A Q := c_stk i_103_4 rfl
theorem q_103_5 : XX d 103 5 [v0] (.int y :: .int x :: st) A Q ↔ if x = y then XX d 103 8 [v0] st A Q else XX d 103 12 [v0] st A Q := b_ne i_103_5 rfl rfl rfl
theorem q_103_8 : XX d 103 8 [v0] st A Q ↔ XX d 103 9 [v0] (.int (w 0) :: st) A Q := c_stk i_103_8 rfl
theorem q_103_9 : XX d 103 9 [v0] st A Q ↔ XX d 103 21 [v0] st A Q := c_go i_103_9 rfl rfl
theorem q_103_12 : XX d 103 12 [some (.ref a)] st A Q ↔ XX d 103 13 [some (.ref a)] (.ref a :: st) A Q := c_lcl i_103_12 rfl rfl
theorem q_103_13 : XX d 103 13 [v0] (.ref a :: st) (mk S I L R G) Q ↔ S a = some (.inr 10) ∧ XX d 103 16 [v0] (.ref (a + 2) :: st) (mk S I L R G) Q := r_gf i_103_13 rfl (by decide) rfl
theorem q_103_16 : XX d 103 16 [some (.ref a)] st A Q ↔ XX d 103 17 [some (.ref a)] (.ref a :: st) A Q := c_lcl i_103_16 rfl rfl
theorem q_103_17 : XX d 103 17 [v0] (.ref a :: st) (mk S I L R G) Q ↔ S a = some (.inr 10) ∧ XX d 103 20 [v0] (.int (I a 4) :: st) (mk S I L R G) Q := r_gf i_103_17 rfl (by decide) rfl
theorem q_103_20 : XX d 103 20 [v0] (.int x :: .ref a :: st) (mk S I L R G) Q ↔ inA (S a) ok_i x ∧ XX d 103 21 [v0] (.int (I a (ix x)) :: st) (mk S I L R G) Q := r_ia i_103_20
theorem q_103_21 : XX d 103 21 [v0] [.int x] A Q ↔ Q (.inl (some (.int x))) A := e_retI i_103_21 rfl
theorem q_103_e : XC d 103 [.ref a0] A Q ↔ XX d 103 0 [some (.ref a0)] [] A Q := Iff.rfl
theorem i_104_0 : t_ins 104 0 = some (.aload_n 0) := by decide +kernel
theorem i_104_1 : t_ins 104 1 = some (.invokespecial 3) := by decide +kernel
theorem i_104_4 : t_ins 104 4 = some (.aload_n 0) := by decide +kernel
theorem i_104_5 : t_ins 104 5 = some (.new 9) := by decide +kernel
theorem i_104_8 : t_ins 104 8 = some (.dup) := by decide +kernel
theorem i_104_9 : t_ins 104 9 = some (.invokespecial 11) := by decide +kernel
theorem i_104_12 : t_ins 104 12 = some (.putfield 12) := by decide +kernel
theorem i_104_15 : t_ins 104 15 = some (.aload_n 0) := by decide +kernel
theorem i_104_16 : t_ins 104 16 = some (.new 16) := by decide +kernel
theorem i_104_19 : t_ins 104 19 = some (.dup) := by decide +kernel
theorem i_104_20 : t_ins 104 20 = some (.invokespecial 18) := by decide +kernel
theorem i_104_23 : t_ins 104 23 = some (.putfield 19) := by decide +kernel
theorem i_104_26 : t_ins 104 26 = some (.aload_n 0) := by decide +kernel
theorem i_104_27 : t_ins 104 27 = some (.new 23) := by decide +kernel
theorem i_104_30 : t_ins 104 30 = some (.dup) := by decide +kernel
theorem i_104_31 : t_ins 104 31 = some (.invokespecial 25) := by decide +kernel
theorem i_104_34 : t_ins 104 34 = some (.putfield 26) := by decide +kernel
theorem i_104_37 : t_ins 104 37 = some (.aload_n 0) := by decide +kernel
theorem i_104_38 : t_ins 104 38 = some (.new 30) := by decide +kernel
theorem i_104_41 : t_ins 104 41 = some (.dup) := by decide +kernel
theorem i_104_42 : t_ins 104 42 = some (.invokespecial 32) := by decide +kernel
theorem i_104_45 : t_ins 104 45 = some (.putfield 33) := by decide +kernel
theorem i_104_48 : t_ins 104 48 = some (.aload_n 0) := by decide +kernel
theorem i_104_49 : t_ins 104 49 = some (.new 37) := by decide +kernel
theorem i_104_52 : t_ins 104 52 = some (.dup) := by decide +kernel
theorem i_104_53 : t_ins 104 53 = some (.invokespecial 39) := by decide +kernel
theorem i_104_56 : t_ins 104 56 = some (.putfield 40) := by decide +kernel
theorem i_104_59 : t_ins 104 59 = some (.aload_n 0) := by decide +kernel
theorem i_104_60 : t_ins 104 60 = some (.new 37) := by decide +kernel
theorem i_104_63 : t_ins 104 63 = some (.dup) := by decide +kernel
theorem i_104_64 : t_ins 104 64 = some (.invokespecial 39) := by decide +kernel
theorem i_104_67 : t_ins 104 67 = some (.putfield 44) := by decide +kernel
theorem i_104_70 : t_ins 104 70 = some (.aload_n 0) := by decide +kernel
theorem i_104_71 : t_ins 104 71 = some (.new 47) := by decide +kernel
theorem i_104_74 : t_ins 104 74 = some (.dup) := by decide +kernel
theorem i_104_75 : t_ins 104 75 = some (.invokespecial 49) := by decide +kernel
theorem i_104_78 : t_ins 104 78 = some (.putfield 50) := by decide +kernel
theorem i_104_81 : t_ins 104 81 = some (.aload_n 0) := by decide +kernel
theorem i_104_82 : t_ins 104 82 = some (.new 54) := by decide +kernel
theorem i_104_85 : t_ins 104 85 = some (.dup) := by decide +kernel
theorem i_104_86 : t_ins 104 86 = some (.invokespecial 56) := by decide +kernel
theorem i_104_89 : t_ins 104 89 = some (.putfield 57) := by decide +kernel
theorem i_104_92 : t_ins 104 92 = some (.aload_n 0) := by decide +kernel
theorem i_104_93 : t_ins 104 93 = some (.new 61) := by decide +kernel
theorem i_104_96 : t_ins 104 96 = some (.dup) := by decide +kernel
theorem i_104_97 : t_ins 104 97 = some (.invokespecial 63) := by decide +kernel
theorem i_104_100 : t_ins 104 100 = some (.putfield 64) := by decide +kernel
theorem i_104_103 : t_ins 104 103 = some (.aload_n 0) := by decide +kernel
theorem i_104_104 : t_ins 104 104 = some (.bipush 103) := by decide +kernel
theorem i_104_106 : t_ins 104 106 = some (.newarray .int) := by decide +kernel
theorem i_104_108 : t_ins 104 108 = some (.putfield 68) := by decide +kernel
theorem i_104_111 : t_ins 104 111 = some (.aload_n 0) := by decide +kernel
theorem i_104_112 : t_ins 104 112 = some (.iconst (-1)) := by decide +kernel
theorem i_104_113 : t_ins 104 113 = some (.putfield 72) := by decide +kernel
theorem i_104_116 : t_ins 104 116 = some (.aload_n 0) := by decide +kernel
theorem i_104_117 : t_ins 104 117 = some (.iconst 0) := by decide +kernel
theorem i_104_118 : t_ins 104 118 = some (.putfield 76) := by decide +kernel
theorem i_104_121 : t_ins 104 121 = some (.aload_n 0) := by decide +kernel
theorem i_104_122 : t_ins 104 122 = some (.iconst 0) := by decide +kernel
theorem i_104_123 : t_ins 104 123 = some (.putfield 79) := by decide +kernel
theorem i_104_126 : t_ins 104 126 = some (.return_) := by decide +kernel
theorem q_104_0 : XX d 104 0 [some (.ref a)] st A Q ↔ XX d 104 1 [some (.ref a)] (.ref a :: st) A Q := c_lcl i_104_0 rfl rfl
theorem q_104_4 : XX d 104 4 [some (.ref a)] st A Q ↔ XX d 104 5 [some (.ref a)] (.ref a :: st) A Q := c_lcl i_104_4 rfl rfl
theorem q_104_8 : XX d 104 8 [v0] (.ref a1 :: st) A Q ↔ XX d 104 9 [v0] (.ref a1 :: .ref a1 :: st) A Q := c_stk i_104_8 rfl
theorem q_104_15 : XX d 104 15 [some (.ref a)] st A Q ↔ XX d 104 16 [some (.ref a)] (.ref a :: st) A Q := c_lcl i_104_15 rfl rfl
theorem q_104_19 : XX d 104 19 [v0] (.ref a1 :: st) A Q ↔ XX d 104 20 [v0] (.ref a1 :: .ref a1 :: st) A Q := c_stk i_104_19 rfl
theorem q_104_26 : XX d 104 26 [some (.ref a)] st A Q ↔ XX d 104 27 [some (.ref a)] (.ref a :: st) A Q := c_lcl i_104_26 rfl rfl
theorem q_104_30 : XX d 104 30 [v0] (.ref a1 :: st) A Q ↔ XX d 104 31 [v0] (.ref a1 :: .ref a1 :: st) A Q := c_stk i_104_30 rfl
theorem q_104_37 : XX d 104 37 [some (.ref a)] st A Q ↔ XX d 104 38 [some (.ref a)] (.ref a :: st) A Q := c_lcl i_104_37 rfl rfl
theorem q_104_41 : XX d 104 41 [v0] (.ref a1 :: st) A Q ↔ XX d 104 42 [v0] (.ref a1 :: .ref a1 :: st) A Q := c_stk i_104_41 rfl
theorem q_104_48 : XX d 104 48 [some (.ref a)] st A Q ↔ XX d 104 49 [some (.ref a)] (.ref a :: st) A Q := c_lcl i_104_48 rfl rfl
theorem q_104_52 : XX d 104 52 [v0] (.ref a1 :: st) A Q ↔ XX d 104 53 [v0] (.ref a1 :: .ref a1 :: st) A Q := c_stk i_104_52 rfl
theorem q_104_59 : XX d 104 59 [some (.ref a)] st A Q ↔ XX d 104 60 [some (.ref a)] (.ref a :: st) A Q := c_lcl i_104_59 rfl rfl
theorem q_104_63 : XX d 104 63 [v0] (.ref a1 :: st) A Q ↔ XX d 104 64 [v0] (.ref a1 :: .ref a1 :: st) A Q := c_stk i_104_63 rfl
theorem q_104_70 : XX d 104 70 [some (.ref a)] st A Q ↔ XX d 104 71 [some (.ref a)] (.ref a :: st) A Q := c_lcl i_104_70 rfl rfl
theorem q_104_74 : XX d 104 74 [v0] (.ref a1 :: st) A Q ↔ XX d 104 75 [v0] (.ref a1 :: .ref a1 :: st) A Q := c_stk i_104_74 rfl
theorem q_104_81 : XX d 104 81 [some (.ref a)] st A Q ↔ XX d 104 82 [some (.ref a)] (.ref a :: st) A Q := c_lcl i_104_81 rfl rfl
theorem q_104_85 : XX d 104 85 [v0] (.ref a1 :: st) A Q ↔ XX d 104 86 [v0] (.ref a1 :: .ref a1 :: st) A Q := c_stk i_104_85 rfl
theorem q_104_92 : XX d 104 92 [some (.ref a)] st A Q ↔ XX d 104 93 [some (.ref a)] (.ref a :: st) A Q := c_lcl i_104_92 rfl rfl
theorem q_104_96 : XX d 104 96 [v0] (.ref a1 :: st) A Q ↔ XX d 104 97 [v0] (.ref a1 :: .ref a1 :: st) A Q := c_stk i_104_96 rfl
theorem q_104_103 : XX d 104 103 [some (.ref a)] st A Q ↔ XX d 104 104 [some (.ref a)] (.ref a :: st) A Q := c_lcl i_104_103 rfl rfl
theorem q_104_104 : XX d 104 104 [v0] st A Q ↔ XX d 104 106 [v0] (.int (w 103) :: st) A Q := c_stk i_104_104 rfl
theorem q_104_111 : XX d 104 111 [some (.ref a)] st A Q ↔ XX d 104 112 [some (.ref a)] (.ref a :: st) A Q := c_lcl i_104_111 rfl rfl
theorem q_104_112 : XX d 104 112 [v0] st A Q ↔ XX d 104 113 [v0] (.int (w (-1)) :: st) A Q := c_stk i_104_112 rfl
theorem q_104_116 : XX d 104 116 [some (.ref a)] st A Q ↔ XX d 104 117 [some (.ref a)] (.ref a :: st) A Q := c_lcl i_104_116 rfl rfl
theorem q_104_117 : XX d 104 117 [v0] st A Q ↔ XX d 104 118 [v0] (.int (w 0) :: st) A Q := c_stk i_104_117 rfl
theorem q_104_121 : XX d 104 121 [some (.ref a)] st A Q ↔ XX d 104 122 [some (.ref a)] (.ref a :: st) A Q := c_lcl i_104_121 rfl rfl
theorem q_104_122 : XX d 104 122 [v0] st A Q ↔ XX d 104 123 [v0] (.int (w 0) :: st) A Q := c_stk i_104_122 rfl
theorem q_104_126 : XX d 104 126 [v0] [] A Q ↔ Q (.inl none) A := e_retN i_104_126 rfl
theorem q_104_e : XC d 104 [.ref a0] A Q ↔ XX d 104 0 [some (.ref a0)] [] A Q := Iff.rfl
theorem i_105_0 : t_ins 105 0 = some (.aload_n 0) := by decide +kernel
theorem i_105_1 : t_ins 105 1 = some (.getfield 12) := by decide +kernel
theorem i_105_4 : t_ins 105 4 = some (.getfield 82) := by decide +kernel
theorem i_105_7 : t_ins 105 7 = some (.sipush 380) := by decide +kernel
theorem i_105_10 : t_ins 105 10 = some (.if_icmp .le 5) := by decide +kernel
theorem i_105_13 : t_ins 105 13 = some (.iconst (-1)) := by decide +kernel
theorem i_105_14 : t_ins 105 14 = some (.ireturn) := by decide +kernel
theorem i_105_15 : t_ins 105 15 = some (.aload_n 0) := by decide +kernel
theorem i_105_16 : t_ins 105 16 = some (.getfield 12) := by decide +kernel
theorem i_105_19 : t_ins 105 19 = some (.iload_n 1) := by decide +kernel
theorem i_105_20 : t_ins 105 20 = some (.invokevirtual 85) := by decide +kernel
theorem i_105_23 : t_ins 105 23 = some (.aload_n 0) := by decide +kernel
theorem i_105_24 : t_ins 105 24 = some (.getfield 12) := by decide +kernel
theorem i_105_27 : t_ins 105 27 = some (.iload_n 2) := by decide +kernel
theorem i_105_28 : t_ins 105 28 = some (.invokevirtual 85) := by decide +kernel
theorem i_105_31 : t_ins 105 31 = some (.aload_n 0) := by decide +kernel
theorem i_105_32 : t_ins 105 32 = some (.getfield 12) := by decide +kernel
theorem i_105_35 : t_ins 105 35 = some (.iload_n 3) := by decide +kernel
theorem i_105_36 : t_ins 105 36 = some (.invokevirtual 85) := by decide +kernel
theorem i_105_39 : t_ins 105 39 = some (.aload_n 0) := by decide +kernel
theorem i_105_40 : t_ins 105 40 = some (.getfield 12) := by decide +kernel
theorem i_105_43 : t_ins 105 43 = some (.iload 4) := by decide +kernel
theorem i_105_45 : t_ins 105 45 = some (.invokevirtual 85) := by decide +kernel
theorem i_105_48 : t_ins 105 48 = some (.aload_n 0) := by decide +kernel
theorem i_105_49 : t_ins 105 49 = some (.getfield 12) := by decide +kernel
theorem i_105_52 : t_ins 105 52 = some (.iload 5) := by decide +kernel
theorem i_105_54 : t_ins 105 54 = some (.invokevirtual 85) := by decide +kernel
theorem i_105_57 : t_ins 105 57 = some (.aload_n 0) := by decide +kernel
theorem i_105_58 : t_ins 105 58 = some (.getfield 12) := by decide +kernel
theorem i_105_61 : t_ins 105 61 = some (.getfield 82) := by decide +kernel
theorem i_105_64 : t_ins 105 64 = some (.ireturn) := by decide +kernel
theorem q_105_0 : XX d 105 0 [some (.ref a), v1, v2, v3, v4, v5] st A Q ↔ XX d 105 1 [some (.ref a), v1, v2, v3, v4, v5] (.ref a :: st) A Q := c_lcl i_105_0 rfl rfl
theorem q_105_1 : XX d 105 1 [v0, v1, v2, v3, v4, v5] (.ref a :: st) (mk S I L R G) Q ↔ S a = some (.inr 11) ∧ XX d 105 4 [v0, v1, v2, v3, v4, v5] (.ref (a + 1) :: st) (mk S I L R G) Q := r_gf i_105_1 rfl (by decide) rfl
theorem q_105_4 : XX d 105 4 [v0, v1, v2, v3, v4, v5] (.ref a :: st) (mk S I L R G) Q ↔ S a = some (.inr 7) ∧ XX d 105 7 [v0, v1, v2, v3, v4, v5] (.int (I a 1) :: st) (mk S I L R G) Q := r_gf i_105_4 rfl (by decide) rfl
theorem q_105_7 : XX d 105 7 [v0, v1, v2, v3, v4, v5] st A Q ↔ XX d 105 10 [v0, v1, v2, v3, v4, v5] (.int (w 380) :: st) A Q := c_stk i_105_7 rfl
theorem q_105_10 : XX d 105 10 [v0, v1, v2, v3, v4, v5] (.int y :: .int x :: st) A Q ↔ if y < x then XX d 105 13 [v0, v1, v2, v3, v4, v5] st A Q else XX d 105 15 [v0, v1, v2, v3, v4, v5] st A Q := b_le i_105_10 rfl rfl rfl
theorem q_105_13 : XX d 105 13 [v0, v1, v2, v3, v4, v5] st A Q ↔ XX d 105 14 [v0, v1, v2, v3, v4, v5] (.int (w (-1)) :: st) A Q := c_stk i_105_13 rfl
theorem q_105_14 : XX d 105 14 [v0, v1, v2, v3, v4, v5] [.int x] A Q ↔ Q (.inl (some (.int x))) A := e_retI i_105_14 rfl
theorem q_105_15 : XX d 105 15 [some (.ref a), v1, v2, v3, v4, v5] st A Q ↔ XX d 105 16 [some (.ref a), v1, v2, v3, v4, v5] (.ref a :: st) A Q := c_lcl i_105_15 rfl rfl
theorem q_105_16 : XX d 105 16 [v0, v1, v2, v3, v4, v5] (.ref a :: st) (mk S I L R G) Q ↔ S a = some (.inr 11) ∧ XX d 105 19 [v0, v1, v2, v3, v4, v5] (.ref (a + 1) :: st) (mk S I L R G) Q := r_gf i_105_16 rfl (by decide) rfl
theorem q_105_19 : XX d 105 19 [v0, some (.int x), v2, v3, v4, v5] st A Q ↔ XX d 105 20 [v0, some (.int x), v2, v3, v4, v5] (.int x :: st) A Q := c_lcl i_105_19 rfl rfl
theorem q_105_20 : XX (d + 1) 105 20 [v0, v1, v2, v3, v4, v5] [.int x1, .ref a0] (mk S I L R G) Q ↔ S a0 = some (.inr 7) ∧ XC d 63 [.ref a0, .int x1] (mk S I L R G) (XK (d + 1) 105 20 [v0, v1, v2, v3, v4, v5] [] Q) := c_callV i_105_20 rfl rfl rfl rfl (Nat.le_of_ble_eq_true rfl) (Nat.le_of_ble_eq_true rfl) rfl
theorem q_105_23 : XX d 105 23 [some (.ref a), v1, v2, v3, v4, v5] st A Q ↔ XX d 105 24 [some (.ref a), v1, v2, v3, v4, v5] (.ref a :: st) A Q := c_lcl i_105_23 rfl rfl
theorem q_105_24 : XX d 105 24 [v0, v1, v2, v3, v4, v5] (.ref a :: st) (mk S I L R G) Q ↔ S a = some (.inr 11) ∧ XX d 105 27 [v0, v1, v2, v3, v4, v5] (.ref (a + 1) :: st) (mk S I L R G) Q := r_gf i_105_24 rfl (by decide) rfl
theorem q_105_27 : XX d 105 27 [v0, v1, some (.int x), v3, v4, v5] st A Q ↔ XX d 105 28 [v0, v1, some (.int x), v3, v4, v5] (.int x :: st) A Q := c_lcl i_105_27 rfl rfl
theorem q_105_28 : XX (d + 1) 105 28 [v0, v1, v2, v3, v4, v5] [.int x1, .ref a0] (mk S I L R G) Q ↔ S a0 = some (.inr 7) ∧ XC d 63 [.ref a0, .int x1] (mk S I L R G) (XK (d + 1) 105 28 [v0, v1, v2, v3, v4, v5] [] Q) := c_callV i_105_28 rfl rfl rfl rfl (Nat.le_of_ble_eq_true rfl) (Nat.le_of_ble_eq_true rfl) rfl
theorem q_105_31 : XX d 105 31 [some (.ref a), v1, v2, v3, v4, v5] st A Q ↔ XX d 105 32 [some (.ref a), v1, v2, v3, v4, v5] (.ref a :: st) A Q := c_lcl i_105_31 rfl rfl
theorem q_105_32 : XX d 105 32 [v0, v1, v2, v3, v4, v5] (.ref a :: st) (mk S I L R G) Q ↔ S a = some (.inr 11) ∧ XX d 105 35 [v0, v1, v2, v3, v4, v5] (.ref (a + 1) :: st) (mk S I L R G) Q := r_gf i_105_32 rfl (by decide) rfl
theorem q_105_35 : XX d 105 35 [v0, v1, v2, some (.int x), v4, v5] st A Q ↔ XX d 105 36 [v0, v1, v2, some (.int x), v4, v5] (.int x :: st) A Q := c_lcl i_105_35 rfl rfl
theorem q_105_36 : XX (d + 1) 105 36 [v0, v1, v2, v3, v4, v5] [.int x1, .ref a0] (mk S I L R G) Q ↔ S a0 = some (.inr 7) ∧ XC d 63 [.ref a0, .int x1] (mk S I L R G) (XK (d + 1) 105 36 [v0, v1, v2, v3, v4, v5] [] Q) := c_callV i_105_36 rfl rfl rfl rfl (Nat.le_of_ble_eq_true rfl) (Nat.le_of_ble_eq_true rfl) rfl
theorem q_105_39 : XX d 105 39 [some (.ref a), v1, v2, v3, v4, v5] st A Q ↔ XX d 105 40 [some (.ref a), v1, v2, v3, v4, v5] (.ref a :: st) A Q := c_lcl i_105_39 rfl rfl
theorem q_105_40 : XX d 105 40 [v0, v1, v2, v3, v4, v5] (.ref a :: st) (mk S I L R G) Q ↔ S a = some (.inr 11) ∧ XX d 105 43 [v0, v1, v2, v3, v4, v5] (.ref (a + 1) :: st) (mk S I L R G) Q := r_gf i_105_40 rfl (by decide) rfl
theorem q_105_43 : XX d 105 43 [v0, v1, v2, v3, some (.int x), v5] st A Q ↔ XX d 105 45 [v0, v1, v2, v3, some (.int x), v5] (.int x :: st) A Q := c_lcl i_105_43 rfl rfl
theorem q_105_45 : XX (d + 1) 105 45 [v0, v1, v2, v3, v4, v5] [.int x1, .ref a0] (mk S I L R G) Q ↔ S a0 = some (.inr 7) ∧ XC d 63 [.ref a0, .int x1] (mk S I L R G) (XK (d + 1) 105 45 [v0, v1, v2, v3, v4, v5] [] Q) := c_callV i_105_45 rfl rfl rfl rfl (Nat.le_of_ble_eq_true rfl) (Nat.le_of_ble_eq_true rfl) rfl
theorem q_105_48 : XX d 105 48 [some (.ref a), v1, v2, v3, v4, v5] st A Q ↔ XX d 105 49 [some (.ref a), v1, v2, v3, v4, v5] (.ref a :: st) A Q := c_lcl i_105_48 rfl rfl
theorem q_105_49 : XX d 105 49 [v0, v1, v2, v3, v4, v5] (.ref a :: st) (mk S I L R G) Q ↔ S a = some (.inr 11) ∧ XX d 105 52 [v0, v1, v2, v3, v4, v5] (.ref (a + 1) :: st) (mk S I L R G) Q := r_gf i_105_49 rfl (by decide) rfl
theorem q_105_52 : XX d 105 52 [v0, v1, v2, v3, v4, some (.int x)] st A Q ↔ XX d 105 54 [v0, v1, v2, v3, v4, some (.int x)] (.int x :: st) A Q := c_lcl i_105_52 rfl rfl
theorem q_105_54 : XX (d + 1) 105 54 [v0, v1, v2, v3, v4, v5] [.int x1, .ref a0] (mk S I L R G) Q ↔ S a0 = some (.inr 7) ∧ XC d 63 [.ref a0, .int x1] (mk S I L R G) (XK (d + 1) 105 54 [v0, v1, v2, v3, v4, v5] [] Q) := c_callV i_105_54 rfl rfl rfl rfl (Nat.le_of_ble_eq_true rfl) (Nat.le_of_ble_eq_true rfl) rfl
theorem q_105_57 : XX d 105 57 [some (.ref a), v1, v2, v3, v4, v5] st A Q ↔ XX d 105 58 [some (.ref a), v1, v2, v3, v4, v5] (.ref a :: st) A Q := c_lcl i_105_57 rfl rfl
theorem q_105_58 : XX d 105 58 [v0, v1, v2, v3, v4, v5] (.ref a :: st) (mk S I L R G) Q ↔ S a = some (.inr 11) ∧ XX d 105 61 [v0, v1, v2, v3, v4, v5] (.ref (a + 1) :: st) (mk S I L R G) Q := r_gf i_105_58 rfl (by decide) rfl
theorem q_105_61 : XX d 105 61 [v0, v1, v2, v3, v4, v5] (.ref a :: st) (mk S I L R G) Q ↔ S a = some (.inr 7) ∧ XX d 105 64 [v0, v1, v2, v3, v4, v5] (.int (I a 1) :: st) (mk S I L R G) Q := r_gf i_105_61 rfl (by decide) rfl
theorem q_105_64 : XX d 105 64 [v0, v1, v2, v3, v4, v5] [.int x] A Q ↔ Q (.inl (some (.int x))) A := e_retI i_105_64 rfl
theorem q_105_e : XC d 105 [.ref a0, .int x1, .int x2, .int x3, .int x4, .int x5] A Q ↔ XX d 105 0 [some (.ref a0), some (.int x1), some (.int x2), some (.int x3), some (.int x4), some (.int x5)] [] A Q := Iff.rfl
theorem i_106_0 : t_ins 106 0 = some (.aload_n 0) := by decide +kernel
theorem i_106_1 : t_ins 106 1 = some (.iload_n 1) := by decide +kernel
theorem i_106_2 : t_ins 106 2 = some (.iconst 0) := by decide +kernel
theorem i_106_3 : t_ins 106 3 = some (.aload_n 0) := by decide +kernel
theorem i_106_4 : t_ins 106 4 = some (.getfield 12) := by decide +kernel
theorem i_106_7 : t_ins 106 7 = some (.getfield 82) := by decide +kernel
theorem i_106_10 : t_ins 106 10 = some (.invokevirtual 89) := by decide +kernel
theorem i_106_13 : t_ins 106 13 = some (.aload_n 0) := by decide +kernel
theorem i_106_14 : t_ins 106 14 = some (.iload_n 1) := by decide +kernel
theorem i_106_15 : t_ins 106 15 = some (.iconst 0) := by decide +kernel
theorem i_106_16 : t_ins 106 16 = some (.invokevirtual 93) := by decide +kernel
theorem i_106_19 : t_ins 106 19 = some (.ireturn) := by decide +kernel
theorem q_106_0 : XX d 106 0 [some (.ref a), v1] st A Q ↔ XX d 106 1 [some (.ref a), v1] (.ref a :: st) A Q := c_lcl i_106_0 rfl rfl
theorem q_106_1 : XX d 106 1 [v0, some (.int x)] st A Q ↔ XX d 106 2 [v0, some (.int x)] (.int x :: st) A Q := c_lcl i_106_1 rfl rfl
theorem q_106_2 : XX d 106 2 [v0, v1] st A Q ↔ XX d 106 3 [v0, v1] (.int (w 0) :: st) A Q := c_stk i_106_2 rfl
theorem q_106_3 : XX d 106 3 [some (.ref a), v1] st A Q ↔ XX d 106 4 [some (.ref a), v1] (.ref a :: st) A Q := c_lcl i_106_3 rfl rfl
theorem q_106_4 : XX d 106 4 [v0, v1] (.ref a :: st) (mk S I L R G) Q ↔ S a = some (.inr 11) ∧ XX d 106 7 [v0, v1] (.ref (a + 1) :: st) (mk S I L R G) Q := r_gf i_106_4 rfl (by decide) rfl
theorem q_106_7 : XX d 106 7 [v0, v1] (.ref a :: st) (mk S I L R G) Q ↔ S a = some (.inr 7) ∧ XX d 106 10 [v0, v1] (.int (I a 1) :: st) (mk S I L R G) Q := r_gf i_106_7 rfl (by decide) rfl
theorem q_106_10 : XX (d + 1) 106 10 [v0, v1] [.int x3, .int x2, .int x1, .ref a0] (mk S I L R G) Q ↔ S a0 = some (.inr 11) ∧ XC d 146 [.ref a0, .int x1, .int x2, .int x3] (mk S I L R G) (XK (d + 1) 106 10 [v0, v1] [] Q) := c_callV i_106_10 rfl rfl rfl rfl (Nat.le_of_ble_eq_true rfl) (Nat.le_of_ble_eq_true rfl) rfl
theorem q_106_13 : XX d 106 13 [some (.ref a), v1] st A Q ↔ XX d 106 14 [some (.ref a), v1] (.ref a :: st) A Q := c_lcl i_106_13 rfl rfl
theorem q_106_14 : XX d 106 14 [v0, some (.int x)] st A Q ↔ XX d 106 15 [v0, some (.int x)] (.int x :: st) A Q := c_lcl i_106_14 rfl rfl
theorem q_106_15 : XX d 106 15 [v0, v1] st A Q ↔ XX d 106 16 [v0, v1] (.int (w 0) :: st) A Q := c_stk i_106_15 rfl
theorem q_106_16 : XX (d + 1) 106 16 [v0, v1] [.int x2, .int x1, .ref a0] (mk S I L R G) Q ↔ S a0 = some (.inr 11) ∧ XC d 109 [.ref a0, .int x1, .int x2] (mk S I L R G) (XK (d + 1) 106 16 [v0, v1] [] Q) := c_callV i_106_16 rfl rfl rfl rfl (Nat.le_of_ble_eq_true rfl) (Nat.le_of_ble_eq_true rfl) rfl
theorem q_106_19 : XX d 106 19 [v0, v1] [.int x] A Q ↔ Q (.inl (some (.int x))) A := e_retI i_106_19 rfl
theorem q_106_e : XC d 106 [.ref a0, .int x1] A Q ↔ XX d 106 0 [some (.ref a0), some (.int x1)] [] A Q := Iff.rfl
theorem i_107_0 : t_ins 107 0 = some (.aload_n 0) := by decide +kernel
theorem i_107_1 : t_ins 107 1 = some (.getfield 72) := by decide +kernel
theorem i_107_4 : t_ins 107 4 = some (.ireturn) := by decide +kernel
theorem q_107_0 : XX d 107 0 [some (.ref a)] st A Q ↔ XX d 107 1 [some (.ref a)] (.ref a :: st) A Q := c_lcl i_107_0 rfl rfl
theorem q_107_1 : XX d 107 1 [v0] (.ref a :: st) (mk S I L R G) Q ↔ S a = some (.inr 11) ∧ XX d 107 4 [v0] (.int (I a 10) :: st) (mk S I L R G) Q := r_gf i_107_1 rfl (by decide) rfl
theorem q_107_4 : XX d 107 4 [v0] [.int x] A Q ↔ Q (.inl (some (.int x))) A := e_retI i_107_4 rfl
theorem q_107_e : XC d 107 [.ref a0] A Q ↔ XX d 107 0 [some (.ref a0)] [] A Q := Iff.rfl
theorem i_108_0 : t_ins 108 0 = some (.aload_n 0) := by decide +kernel
theorem i_108_1 : t_ins 108 1 = some (.iload_n 1) := by decide +kernel
theorem i_108_2 : t_ins 108 2 = some (.iconst 0) := by decide +kernel
theorem i_108_3 : t_ins 108 3 = some (.aload_n 0) := by decide +kernel
theorem i_108_4 : t_ins 108 4 = some (.getfield 12) := by decide +kernel
theorem i_108_7 : t_ins 108 7 = some (.getfield 82) := by decide +kernel
theorem i_108_10 : t_ins 108 10 = some (.invokevirtual 89) := by decide +kernel
theorem i_108_13 : t_ins 108 13 = some (.aload_n 0) := by decide +kernel
theorem i_108_14 : t_ins 108 14 = some (.iload_n 1) := by decide +kernel
theorem i_108_15 : t_ins 108 15 = some (.iconst 1) := by decide +kernel
theorem i_108_16 : t_ins 108 16 = some (.invokevirtual 93) := by decide +kernel
theorem i_108_19 : t_ins 108 19 = some (.ireturn) := by decide +kernel
theorem q_108_0 : XX d 108 0 [some (.ref a), v1] st A Q ↔ XX d 108 1 [some (.ref a), v1] (.ref a :: st) A Q := c_lcl i_108_0 rfl rfl
theorem q_108_1 : XX d 108 1 [v0, some (.int x)] st A Q ↔ XX d 108 2 [v0, some (.int x)] (.int x :: st) A Q := c_lcl i_108_1 rfl rfl
theorem q_108_2 : XX d 108 2 [v0, v1] st A Q ↔ XX d 108 3 [v0, v1] (.int (w 0) :: st) A Q := c_stk i_108_2 rfl
theorem q_108_3 : XX d 108 3 [some (.ref a), v1] st A Q ↔ XX d 108 4 [some (.ref a), v1] (.ref a :: st) A Q := c_lcl i_108_3 rfl rfl
theorem q_108_4 : XX d 108 4 [v0, v1] (.ref a :: st) (mk S I L R G) Q ↔ S a = some (.inr 11) ∧ XX d 108 7 [v0, v1] (.ref (a + 1) :: st) (mk S I L R G) Q := r_gf i_108_4 rfl (by decide) rfl
theorem q_108_7 : XX d 108 7 [v0, v1] (.ref a :: st) (mk S I L R G) Q ↔ S a = some (.inr 7) ∧ XX d 108 10 [v0, v1] (.int (I a 1) :: st) (mk S I L R G) Q := r_gf i_108_7 rfl (by decide) rfl
theorem q_108_10 : XX (d + 1) 108 10 [v0, v1] [.int x3, .int x2, .int x1, .ref a0] (mk S I L R G) Q ↔ S a0 = some (.inr 11) ∧ XC d 146 [.ref a0, .int x1, .int x2, .int x3] (mk S I L R G) (XK (d + 1) 108 10 [v0, v1] [] Q) := c_callV i_108_10 rfl rfl rfl rfl (Nat.le_of_ble_eq_true rfl) (Nat.le_of_ble_eq_true rfl) rfl
theorem q_108_13 : XX d 108 13 [some (.ref a), v1] st A Q ↔ XX d 108 14 [some (.ref a), v1] (.ref a :: st) A Q := c_lcl i_108_13 rfl rfl
theorem q_108_14 : XX d 108 14 [v0, some (.int x)] st A Q ↔ XX d 108 15 [v0, some (.int x)] (.int x :: st) A Q := c_lcl i_108_14 rfl rfl
theorem q_108_15 : XX d 108 15 [v0, v1] st A Q ↔ XX d 108 16 [v0, v1] (.int (w 1) :: st) A Q := c_stk i_108_15 rfl
theorem q_108_16 : XX (d + 1) 108 16 [v0, v1] [.int x2, .int x1, .ref a0] (mk S I L R G) Q ↔ S a0 = some (.inr 11) ∧ XC d 109 [.ref a0, .int x1, .int x2] (mk S I L R G) (XK (d + 1) 108 16 [v0, v1] [] Q) := c_callV i_108_16 rfl rfl rfl rfl (Nat.le_of_ble_eq_true rfl) (Nat.le_of_ble_eq_true rfl) rfl
theorem q_108_19 : XX d 108 19 [v0, v1] [.int x] A Q ↔ Q (.inl (some (.int x))) A := e_retI i_108_19 rfl
theorem q_108_e : XC d 108 [.ref a0, .int x1] A Q ↔ XX d 108 0 [some (.ref a0), some (.int x1)] [] A Q := Iff.rfl
theorem i_109_0 : t_ins 109 0 = some (.aload_n 0) := by decide +kernel
theorem i_109_1 : t_ins 109 1 = some (.getfield 33) := by decide +kernel
theorem i_109_4 : t_ins 109 4 = some (.aload_n 0) := by decide +kernel
theorem i_109_5 : t_ins 109 5 = some (.getfield 12) := by decide +kernel
theorem i_109_8 : t_ins 109 8 = some (.getfield 97) := by decide +kernel
theorem i_109_11 : t_ins 109 11 = some (.iload_n 1) := by decide +kernel
theorem i_109_12 : t_ins 109 12 = some (.aload_n 0) := by decide +kernel
theorem i_109_13 : t_ins 109 13 = some (.getfield 19) := by decide +kernel
theorem i_109_16 : t_ins 109 16 = some (.iload_n 2) := by decide +kernel
theorem i_109_17 : t_ins 109 17 = some (.invokevirtual 101) := by decide +kernel
theorem i_109_20 : t_ins 109 20 = some (.istore_n 3) := by decide +kernel
theorem i_109_21 : t_ins 109 21 = some (.aload_n 0) := by decide +kernel
theorem i_109_22 : t_ins 109 22 = some (.getfield 12) := by decide +kernel
theorem i_109_25 : t_ins 109 25 = some (.iconst 0) := by decide +kernel
theorem i_109_26 : t_ins 109 26 = some (.putfield 82) := by decide +kernel
theorem i_109_29 : t_ins 109 29 = some (.aload_n 0) := by decide +kernel
theorem i_109_30 : t_ins 109 30 = some (.aload_n 0) := by decide +kernel
theorem i_109_31 : t_ins 109 31 = some (.getfield 33) := by decide +kernel
theorem i_109_34 : t_ins 109 34 = some (.getfield 105) := by decide +kernel
theorem i_109_37 : t_ins 109 37 = some (.putfield 72) := by decide +kernel
theorem i_109_40 : t_ins 109 40 = some (.iload_n 3) := by decide +kernel
theorem i_109_41 : t_ins 109 41 = some (.ifCond .ne 14) := by decide +kernel
theorem i_109_44 : t_ins 109 44 = some (.aload_n 0) := by decide +kernel
theorem i_109_45 : t_ins 109 45 = some (.getfield 33) := by decide +kernel
theorem i_109_48 : t_ins 109 48 = some (.getfield 106) := by decide +kernel
theorem i_109_51 : t_ins 109 51 = some (.bipush 10) := by decide +kernel
theorem i_109_53 : t_ins 109 53 = some (.isub) := by decide +kernel
theorem i_109_54 : t_ins 109 54 = some (.ireturn) := by decide +kernel
theorem i_109_55 : t_ins 109 55 = some (.aload_n 0) := by decide +kernel
theorem i_109_56 : t_ins 109 56 = some (.getfield 26) := by decide +kernel
theorem i_109_59 : t_ins 109 59 = some (.aload_n 0) := by decide +kernel
theorem i_109_60 : t_ins 109 60 = some (.getfield 19) := by decide +kernel
theorem i_109_63 : t_ins 109 63 = some (.invokevirtual 109) := by decide +kernel
theorem i_109_66 : t_ins 109 66 = some (.aload_n 0) := by decide +kernel
theorem i_109_67 : t_ins 109 67 = some (.getfield 33) := by decide +kernel
theorem i_109_70 : t_ins 109 70 = some (.getfield 113) := by decide +kernel
theorem i_109_73 : t_ins 109 73 = some (.istore 4) := by decide +kernel
theorem i_109_75 : t_ins 109 75 = some (.iload_n 2) := by decide +kernel
theorem i_109_76 : t_ins 109 76 = some (.ifCond .ne 12) := by decide +kernel
theorem i_109_79 : t_ins 109 79 = some (.aload_n 0) := by decide +kernel
theorem i_109_80 : t_ins 109 80 = some (.getfield 19) := by decide +kernel
theorem i_109_83 : t_ins 109 83 = some (.iload 4) := by decide +kernel
theorem i_109_85 : t_ins 109 85 = some (.invokevirtual 116) := by decide +kernel
theorem i_109_88 : t_ins 109 88 = some (.iconst 0) := by decide +kernel
theorem i_109_89 : t_ins 109 89 = some (.istore 5) := by decide +kernel
theorem i_109_91 : t_ins 109 91 = some (.iload 5) := by decide +kernel
theorem i_109_93 : t_ins 109 93 = some (.aload_n 0) := by decide +kernel
theorem i_109_94 : t_ins 109 94 = some (.getfield 33) := by decide +kernel
theorem i_109_97 : t_ins 109 97 = some (.getfield 119) := by decide +kernel
theorem i_109_100 : t_ins 109 100 = some (.if_icmp .ge 35) := by decide +kernel
theorem i_109_103 : t_ins 109 103 = some (.iload 5) := by decide +kernel
theorem i_109_105 : t_ins 109 105 = some (.bipush 30) := by decide +kernel
theorem i_109_107 : t_ins 109 107 = some (.if_icmp .ge 28) := by decide +kernel
theorem i_109_110 : t_ins 109 110 = some (.aload_n 0) := by decide +kernel
theorem i_109_111 : t_ins 109 111 = some (.getfield 19) := by decide +kernel
theorem i_109_114 : t_ins 109 114 = some (.iload 4) := by decide +kernel
theorem i_109_116 : t_ins 109 116 = some (.aload_n 0) := by decide +kernel
theorem i_109_117 : t_ins 109 117 = some (.getfield 33) := by decide +kernel
theorem i_109_120 : t_ins 109 120 = some (.getfield 122) := by decide +kernel
theorem i_109_123 : t_ins 109 123 = some (.iload 5) := by decide +kernel
theorem i_109_125 : t_ins 109 125 = some (.aaload) := by decide +kernel
theorem i_109_126 : t_ins 109 126 = some (.invokevirtual 126) := by decide +kernel
theorem i_109_129 : t_ins 109 129 = some (.iinc 5 1) := by decide +kernel
theorem i_109_132 : t_ins 109 132 = some (.goto (-41)) := by decide +kernel
theorem i_109_135 : t_ins 109 135 = some (.aload_n 0) := by decide +kernel
theorem i_109_136 : t_ins 109 136 = some (.iload 4) := by decide +kernel
theorem i_109_138 : t_ins 109 138 = some (.invokevirtual 130) := by decide +kernel
theorem i_109_141 : t_ins 109 141 = some (.aload_n 0) := by decide +kernel
theorem i_109_142 : t_ins 109 142 = some (.getfield 19) := by decide +kernel
theorem i_109_145 : t_ins 109 145 = some (.iload 4) := by decide +kernel
theorem i_109_147 : t_ins 109 147 = some (.invokevirtual 133) := by decide +kernel
theorem i_109_150 : t_ins 109 150 = some (.ireturn) := by decide +kernel
theorem q_109_0 : XX d 109 0 [some (.ref a), v1, v2, v3, v4, v5] st A Q ↔ XX d 109 1 [some (.ref a), v1, v2, v3, v4, v5] (.ref a :: st) A Q := c_lcl i_109_0 rfl rfl
theorem q_109_1 : XX d 109 1 [v0, v1, v2, v3, v4, v5] (.ref a :: st) (mk S I L R G) Q ↔ S a = some (.inr 11) ∧ XX d 109 4 [v0, v1, v2, v3, v4, v5] (.ref (a + 44) :: st) (mk S I L R G) Q := r_gf i_109_1 rfl (by decide) rfl
theorem q_109_4 : XX d 109 4 [some (.ref a), v1, v2, v3, v4, v5] st A Q ↔ XX d 109 5 [some (.ref a), v1, v2, v3, v4, v5] (.ref a :: st) A Q := c_lcl i_109_4 rfl rfl
theorem q_109_5 : XX d 109 5 [v0, v1, v2, v3, v4, v5] (.ref a :: st) (mk S I L R G) Q ↔ S a = some (.inr 11) ∧ XX d 109 8 [v0, v1, v2, v3, v4, v5] (.ref (a + 1) :: st) (mk S I L R G) Q := r_gf i_109_5 rfl (by decide) rfl
theorem q_109_8 : XX d 109 8 [v0, v1, v2, v3, v4, v5] (.ref a :: st) (mk S I L R G) Q ↔ S a = some (.inr 7) ∧ XX d 109 11 [v0, v1, v2, v3, v4, v5] (.ref (a + 1) :: st) (mk S I L R G) Q := r_gf i_109_8 rfl (by decide) rfl
theorem q_109_11 : XX d 109 11 [v0, some (.int x), v2, v3, v4, v5] st A Q ↔ XX d 109 12 [v0, some (.int x), v2, v3, v4, v5] (.int x :: st) A Q := c_lcl i_109_11 rfl rfl
theorem q_109_12 : XX d 109 12 [some (.ref a), v1, v2, v3, v4, v5] st A Q ↔ XX d 109 13 [some (.ref a), v1, v2, v3, v4, v5] (.ref a :: st) A Q := c_lcl i_109_12 rfl rfl
theorem q_109_13 : XX d 109 13 [v0, v1, v2, v3, v4, v5] (.ref a :: st) (mk S I L R G) Q ↔ S a = some (.inr 11) ∧ XX d 109 16 [v0, v1, v2, v3, v4, v5] (.ref (a + 3) :: st) (mk S I L R G) Q := r_gf i_109_13 rfl (by decide) rfl
theorem q_109_16 : XX d 109 16 [v0, v1, some (.int x), v3, v4, v5] st A Q ↔ XX d 109 17 [v0, v1, some (.int x), v3, v4, v5] (.int x :: st) A Q := c_lcl i_109_16 rfl rfl
theorem q_109_17 : XX (d + 1) 109 17 [v0, v1, v2, v3, v4, v5] [.int x4, .ref a3, .int x2, .ref a1, .ref a0] (mk S I L R G) Q ↔ S a0 = some (.inr 8) ∧ XC d 65 [.ref a0, .ref a1, .int x2, .ref a3, .int x4] (mk S I L R G) (XK (d + 1) 109 17 [v0, v1, v2, v3, v4, v5] [] Q) := c_callV i_109_17 rfl rfl rfl rfl (Nat.le_of_ble_eq_true rfl) (Nat.le_of_ble_eq_true rfl) rfl
theorem q_109_20 : XX d 109 20 [v0, v1, some (.int z), v3, v4, v5] (.int x :: st) A Q ↔ XX d 109 21 [v0, v1, some (.int z), some (.int x), v4, v5] st A Q := c_lcl i_109_20 rfl rfl
theorem q_109_21 : XX d 109 21 [some (.ref a), v1, v2, v3, v4, v5] st A Q ↔ XX d 109 22 [some (.ref a), v1, v2, v3, v4, v5] (.ref a :: st) A Q := c_lcl i_109_21 rfl rfl
theorem q_109_22 : XX d 109 22 [v0, v1, v2, v3, v4, v5] (.ref a :: st) (mk S I L R G) Q ↔ S a = some (.inr 11) ∧ XX d 109 25 [v0, v1, v2, v3, v4, v5] (.ref (a + 1) :: st) (mk S I L R G) Q := r_gf i_109_22 rfl (by decide) rfl
theorem q_109_25 : XX d 109 25 [v0, v1, v2, v3, v4, v5] st A Q ↔ XX d 109 26 [v0, v1, v2, v3, v4, v5] (.int (w 0) :: st) A Q := c_stk i_109_25 rfl
theorem q_109_26 : XX d 109 26 [v0, v1, v2, v3, v4, v5] (.int x :: .ref a :: st) (mk S I L R G) Q ↔ S a = some (.inr 7) ∧ XX d 109 29 [v0, v1, v2, v3, v4, v5] st (mk S (wr I a (up (I a) 1 x)) L R G) Q := r_pf i_109_26 rfl (by decide) rfl rfl rfl
theorem q_109_29 : XX d 109 29 [some (.ref a), v1, v2, v3, v4, v5] st A Q ↔ XX d 109 30 [some (.ref a), v1, v2, v3, v4, v5] (.ref a :: st) A Q := c_lcl i_109_29 rfl rfl
theorem q_109_30 : XX d 109 30 [some (.ref a), v1, v2, v3, v4, v5] st A Q ↔ XX d 109 31 [some (.ref a), v1, v2, v3, v4, v5] (.ref a :: st) A Q := c_lcl i_109_30 rfl rfl
theorem q_109_31 : XX d 109 31 [v0, v1, v2, v3, v4, v5] (.ref a :: st) (mk S I L R G) Q ↔ S a = some (.inr 11) ∧ XX d 109 34 [v0, v1, v2, v3, v4, v5] (.ref (a + 44) :: st) (mk S I L R G) Q := r_gf i_109_31 rfl (by decide) rfl
theorem q_109_34 : XX d 109 34 [v0, v1, v2, v3, v4, v5] (.ref a :: st) (mk S I L R G) Q ↔ S a = some (.inr 8) ∧ XX d 109 37 [v0, v1, v2, v3, v4, v5] (.int (I a 4) :: st) (mk S I L R G) Q := r_gf i_109_34 rfl (by decide) rfl
theorem q_109_37 : XX d 109 37 [v0, v1, v2, v3, v4, v5] (.int x :: .ref a :: st) (mk S I L R G) Q ↔ S a = some (.inr 11) ∧ XX d 109 40 [v0, v1, v2, v3, v4, v5] st (mk S (wr I a (up (I a) 10 x)) L R G) Q := r_pf i_109_37 rfl (by decide) rfl rfl rfl
theorem q_109_40 : XX d 109 40 [v0, v1, v2, some (.int x), v4, v5] st A Q ↔ XX d 109 41 [v0, v1, v2, some (.int x), v4, v5] (.int x :: st) A Q := c_lcl i_109_40 rfl rfl
theorem q_109_41 : XX d 109 41 [v0, v1, v2, v3, v4, v5] (.int x :: st) A Q ↔ if x = w 0 then XX d 109 44 [v0, v1, v2, v3, v4, v5] st A Q else XX d 109 55 [v0, v1, v2, v3, v4, v5] st A Q := z_ne i_109_41 rfl rfl rfl
theorem q_109_44 : XX d 109 44 [some (.ref a), v1, v2, v3, v4, v5] st A Q ↔ XX d 109 45 [some (.ref a), v1, v2, v3, v4, v5] (.ref a :: st) A Q := c_lcl i_109_44 rfl rfl
theorem q_109_45 : XX d 109 45 [v0, v1, v2, v3, v4, v5] (.ref a :: st) (mk S I L R G) Q ↔ S a = some (.inr 11) ∧ XX d 109 48 [v0, v1, v2, v3, v4, v5] (.ref (a + 44) :: st) (mk S I L R G) Q := r_gf i_109_45 rfl (by decide) rfl
theorem q_109_48 : XX d 109 48 [v0, v1, v2, v3, v4, v5] (.ref a :: st) (mk S I L R G) Q ↔ S a = some (.inr 8) ∧ XX d 109 51 [v0, v1, v2, v3, v4, v5] (.int (I a 3) :: st) (mk S I L R G) Q := r_gf i_109_48 rfl (by decide) rfl
theorem q_109_51 : XX d 109 51 [v0, v1, v2, v3, v4, v5] st A Q ↔ XX d 109 53 [v0, v1, v2, v3, v4, v5] (.int (w 10) :: st) A Q := c_stk i_109_51 rfl
theorem q_109_53 : XX d 109 53 [v0, v1, v2, v3, v4, v5] (.int y :: .int x :: st) A Q ↔ XX d 109 54 [v0, v1, v2, v3, v4, v5] (.int (x - y) :: st) A Q := c_stk i_109_53 rfl
theorem q_109_54 : XX d 109 54 [v0, v1, v2, v3, v4, v5] [.int x] A Q ↔ Q (.inl (some (.int x))) A := e_retI i_109_54 rfl
theorem q_109_55 : XX d 109 55 [some (.ref a), v1, v2, v3, v4, v5] st A Q ↔ XX d 109 56 [some (.ref a), v1, v2, v3, v4, v5] (.ref a :: st) A Q := c_lcl i_109_55 rfl rfl
theorem q_109_56 : XX d 109 56 [v0, v1, v2, v3, v4, v5] (.ref a :: st) (mk S I L R G) Q ↔ S a = some (.inr 11) ∧ XX d 109 59 [v0, v1, v2, v3, v4, v5] (.ref (a + 6) :: st) (mk S I L R G) Q := r_gf i_109_56 rfl (by decide) rfl
theorem q_109_59 : XX d 109 59 [some (.ref a), v1, v2, v3, v4, v5] st A Q ↔ XX d 109 60 [some (.ref a), v1, v2, v3, v4, v5] (.ref a :: st) A Q := c_lcl i_109_59 rfl rfl
theorem q_109_60 : XX d 109 60 [v0, v1, v2, v3, v4, v5] (.ref a :: st) (mk S I L R G) Q ↔ S a = some (.inr 11) ∧ XX d 109 63 [v0, v1, v2, v3, v4, v5] (.ref (a + 3) :: st) (mk S I L R G) Q := r_gf i_109_60 rfl (by decide) rfl
theorem q_109_63 : XX (d + 1) 109 63 [v0, v1, v2, v3, v4, v5] [.ref a1, .ref a0] (mk S I L R G) Q ↔ S a0 = some (.inr 3) ∧ XC d 23 [.ref a0, .ref a1] (mk S I L R G) (XK (d + 1) 109 63 [v0, v1, v2, v3, v4, v5] [] Q) := c_callV i_109_63 rfl rfl rfl rfl (Nat.le_of_ble_eq_true rfl) (Nat.le_of_ble_eq_true rfl) rfl
theorem q_109_66 : XX d 109 66 [some (.ref a), v1, v2, v3, v4, v5] st A Q ↔ XX d 109 67 [some (.ref a), v1, v2, v3, v4, v5] (.ref a :: st) A Q := c_lcl i_109_66 rfl rfl
theorem q_109_67 : XX d 109 67 [v0, v1, v2, v3, v4, v5] (.ref a :: st) (mk S I L R G) Q ↔ S a = some (.inr 11) ∧ XX d 109 70 [v0, v1, v2, v3, v4, v5] (.ref (a + 44) :: st) (mk S I L R G) Q := r_gf i_109_67 rfl (by decide) rfl
theorem q_109_70 : XX d 109 70 [v0, v1, v2, v3, v4, v5] (.ref a :: st) (mk S I L R G) Q ↔ S a = some (.inr 8) ∧ XX d 109 73 [v0, v1, v2, v3, v4, v5] (.int (I a 2) :: st) (mk S I L R G) Q := r_gf i_109_70 rfl (by decide) rfl
theorem q_109_73 : XX d 109 73 [v0, v1, v2, some (.int z), v4, v5] (.int x :: st) A Q ↔ XX d 109 75 [v0, v1, v2, some (.int z), some (.int x), v5] st A Q := c_lcl i_109_73 rfl rfl
theorem q_109_75 : XX d 109 75 [v0, v1, some (.int x), v3, v4, v5] st A Q ↔ XX d 109 76 [v0, v1, some (.int x), v3, v4, v5] (.int x :: st) A Q := c_lcl i_109_75 rfl rfl
theorem q_109_76 : XX d 109 76 [v0, v1, v2, v3, v4, v5] (.int x :: st) A Q ↔ if x = w 0 then XX d 109 79 [v0, v1, v2, v3, v4, v5] st A Q else XX d 109 88 [v0, v1, v2, v3, v4, v5] st A Q := z_ne i_109_76 rfl rfl rfl
theorem q_109_79 : XX d 109 79 [some (.ref a), v1, v2, v3, v4, v5] st A Q ↔ XX d 109 80 [some (.ref a), v1, v2, v3, v4, v5] (.ref a :: st) A Q := c_lcl i_109_79 rfl rfl
theorem q_109_80 : XX d 109 80 [v0, v1, v2, v3, v4, v5] (.ref a :: st) (mk S I L R G) Q ↔ S a = some (.inr 11) ∧ XX d 109 83 [v0, v1, v2, v3, v4, v5] (.ref (a + 3) :: st) (mk S I L R G) Q := r_gf i_109_80 rfl (by decide) rfl
theorem q_109_83 : XX d 109 83 [v0, v1, v2, v3, some (.int x), v5] st A Q ↔ XX d 109 85 [v0, v1, v2, v3, some (.int x), v5] (.int x :: st) A Q := c_lcl i_109_83 rfl rfl
theorem q_109_85 : XX (d + 1) 109 85 [v0, v1, v2, v3, v4, v5] [.int x1, .ref a0] (mk S I L R G) Q ↔ S a0 = some (.inr 0) ∧ XC d 3 [.ref a0, .int x1] (mk S I L R G) (XK (d + 1) 109 85 [v0, v1, v2, v3, v4, v5] [] Q) := c_callV i_109_85 rfl rfl rfl rfl (Nat.le_of_ble_eq_true rfl) (Nat.le_of_ble_eq_true rfl) rfl
theorem q_109_88 : XX d 109 88 [v0, v1, v2, v3, v4, v5] st A Q ↔ XX d 109 89 [v0, v1, v2, v3, v4, v5] (.int (w 0) :: st) A Q := c_stk i_109_88 rfl
theorem q_109_89 : XX d 109 89 [v0, v1, v2, v3, some (.int z), v5] (.int x :: st) A Q ↔ XX d 109 91 [v0, v1, v2, v3, some (.int z), some (.int x)] st A Q := c_lcl i_109_89 rfl rfl
theorem q_109_91 : XX d 109 91 [v0, v1, v2, v3, v4, some (.int x)] st A Q ↔ XX d 109 93 [v0, v1, v2, v3, v4, some (.int x)] (.int x :: st) A Q := c_lcl i_109_91 rfl rfl
theorem q_109_93 : XX d 109 93 [some (.ref a), v1, v2, v3, v4, v5] st A Q ↔ XX d 109 94 [some (.ref a), v1, v2, v3, v4, v5] (.ref a :: st) A Q := c_lcl i_109_93 rfl rfl
theorem q_109_94 : XX d 109 94 [v0, v1, v2, v3, v4, v5] (.ref a :: st) (mk S I L R G) Q ↔ S a = some (.inr 11) ∧ XX d 109 97 [v0, v1, v2, v3, v4, v5] (.ref (a + 44) :: st) (mk S I L R G) Q := r_gf i_109_94 rfl (by decide) rfl
theorem q_109_97 : XX d 109 97 [v0, v1, v2, v3, v4, v5] (.ref a :: st) (mk S I L R G) Q ↔ S a = some (.inr 8) ∧ XX d 109 100 [v0, v1, v2, v3, v4, v5] (.int (I a 1) :: st) (mk S I L R G) Q := r_gf i_109_97 rfl (by decide) rfl
theorem q_109_100 : XX d 109 100 [v0, v1, v2, v3, v4, v5] (.int y :: .int x :: st) A Q ↔ if x < y then XX d 109 103 [v0, v1, v2, v3, v4, v5] st A Q else XX d 109 135 [v0, v1, v2, v3, v4, v5] st A Q := b_ge i_109_100 rfl rfl rfl
theorem q_109_103 : XX d 109 103 [v0, v1, v2, v3, v4, some (.int x)] st A Q ↔ XX d 109 105 [v0, v1, v2, v3, v4, some (.int x)] (.int x :: st) A Q := c_lcl i_109_103 rfl rfl
theorem q_109_105 : XX d 109 105 [v0, v1, v2, v3, v4, v5] st A Q ↔ XX d 109 107 [v0, v1, v2, v3, v4, v5] (.int (w 30) :: st) A Q := c_stk i_109_105 rfl
theorem q_109_107 : XX d 109 107 [v0, v1, v2, v3, v4, v5] (.int y :: .int x :: st) A Q ↔ if x < y then XX d 109 110 [v0, v1, v2, v3, v4, v5] st A Q else XX d 109 135 [v0, v1, v2, v3, v4, v5] st A Q := b_ge i_109_107 rfl rfl rfl
theorem q_109_110 : XX d 109 110 [some (.ref a), v1, v2, v3, v4, v5] st A Q ↔ XX d 109 111 [some (.ref a), v1, v2, v3, v4, v5] (.ref a :: st) A Q := c_lcl i_109_110 rfl rfl
theorem q_109_111 : XX d 109 111 [v0, v1, v2, v3, v4, v5] (.ref a :: st) (mk S I L R G) Q ↔ S a = some (.inr 11) ∧ XX d 109 114 [v0, v1, v2, v3, v4, v5] (.ref (a + 3) :: st) (mk S I L R G) Q := r_gf i_109_111 rfl (by decide) rfl
theorem q_109_114 : XX d 109 114 [v0, v1, v2, v3, some (.int x), v5] st A Q ↔ XX d 109 116 [v0, v1, v2, v3, some (.int x), v5] (.int x :: st) A Q := c_lcl i_109_114 rfl rfl
theorem q_109_116 : XX d 109 116 [some (.ref a), v1, v2, v3, v4, v5] st A Q ↔ XX d 109 117 [some (.ref a), v1, v2, v3, v4, v5] (.ref a :: st) A Q := c_lcl i_109_116 rfl rfl
theorem q_109_117 : XX d 109 117 [v0, v1, v2, v3, v4, v5] (.ref a :: st) (mk S I L R G) Q ↔ S a = some (.inr 11) ∧ XX d 109 120 [v0, v1, v2, v3, v4, v5] (.ref (a + 44) :: st) (mk S I L R G) Q := r_gf i_109_117 rfl (by decide) rfl
theorem q_109_120 : XX d 109 120 [v0, v1, v2, v3, v4, v5] (.ref a :: st) (mk S I L R G) Q ↔ S a = some (.inr 8) ∧ XX d 109 123 [v0, v1, v2, v3, v4, v5] (.ref (a + 1) :: st) (mk S I L R G) Q := r_gf i_109_120 rfl (by decide) rfl
theorem q_109_123 : XX d 109 123 [v0, v1, v2, v3, v4, some (.int x)] st A Q ↔ XX d 109 125 [v0, v1, v2, v3, v4, some (.int x)] (.int x :: st) A Q := c_lcl i_109_123 rfl rfl
theorem q_109_125 : XX d 109 125 [v0, v1, v2, v3, v4, v5] (.int x :: .ref a :: st) (mk S I L R G) Q ↔ inA (S a) ok_q x ∧ XX d 109 126 [v0, v1, v2, v3, v4, v5] (va_rf (R a (ix x)) :: st) (mk S I L R G) Q := r_aq i_109_125
theorem q_109_126 : XX (d + 1) 109 126 [v0, v1, v2, v3, v4, v5] [.ref a2, .int x1, .ref a0] (mk S I L R G) Q ↔ S a0 = some (.inr 0) ∧ XC d 4 [.ref a0, .int x1, .ref a2] (mk S I L R G) (XK (d + 1) 109 126 [v0, v1, v2, v3, v4, v5] [] Q) := c_callV i_109_126 rfl rfl rfl rfl (Nat.le_of_ble_eq_true rfl) (Nat.le_of_ble_eq_true rfl) rfl
theorem q_109_126o : XX (d + 1) 109 126 [v0, v1, v2, v3, v4, v5] [va_rf o2, .int x1, .ref a0] (mk S I L R G) Q ↔ S a0 = some (.inr 0) ∧ XC d 4 [.ref a0, .int x1, va_rf o2] (mk S I L R G) (XK (d + 1) 109 126 [v0, v1, v2, v3, v4, v5] [] Q) := by cases o2 <;> exact c_callV i_109_126 rfl rfl rfl rfl (Nat.le_of_ble_eq_true rfl) (Nat.le_of_ble_eq_true rfl) rfl
theorem q_109_129 : XX d 109 129 [v0, v1, v2, v3, some (.int z), some (.int x)] st A Q ↔ XX d 109 132 [v0, v1, v2, v3, some (.int z), some (.int (x + w 1))] st A Q := c_lcl i_109_129 rfl rfl
theorem q_109_132 : XX d 109 132 [v0, v1, v2, v3, v4, v5] st A Q ↔ XX d 109 91 [v0, v1, v2, v3, v4, v5] st A Q := c_go i_109_132 rfl rfl
theorem q_109_135 : XX d 109 135 [some (.ref a), v1, v2, v3, v4, v5] st A Q ↔ XX d 109 136 [some (.ref a), v1, v2, v3, v4, v5] (.ref a :: st) A Q := c_lcl i_109_135 rfl rfl
theorem q_109_136 : XX d 109 136 [v0, v1, v2, v3, some (.int x), v5] st A Q ↔ XX d 109 138 [v0, v1, v2, v3, some (.int x), v5] (.int x :: st) A Q := c_lcl i_109_136 rfl rfl
theorem q_109_138 : XX (d + 1) 109 138 [v0, v1, v2, v3, v4, v5] [.int x1, .ref a0] (mk S I L R G) Q ↔ S a0 = some (.inr 11) ∧ XC d 114 [.ref a0, .int x1] (mk S I L R G) (XK (d + 1) 109 138 [v0, v1, v2, v3, v4, v5] [] Q) := c_callV i_109_138 rfl rfl rfl rfl (Nat.le_of_ble_eq_true rfl) (Nat.le_of_ble_eq_true rfl) rfl
theorem q_109_141 : XX d 109 141 [some (.ref a), v1, v2, v3, v4, v5] st A Q ↔ XX d 109 142 [some (.ref a), v1, v2, v3, v4, v5] (.ref a :: st) A Q := c_lcl i_109_141 rfl rfl
theorem q_109_142 : XX d 109 142 [v0, v1, v2, v3, v4, v5] (.ref a :: st) (mk S I L R G) Q ↔ S a = some (.inr 11) ∧ XX d 109 145 [v0, v1, v2, v3, v4, v5] (.ref (a + 3) :: st) (mk S I L R G) Q := r_gf i_109_142 rfl (by decide) rfl
theorem q_109_145 : XX d 109 145 [v0, v1, v2, v3, some (.int x), v5] st A Q ↔ XX d 109 147 [v0, v1, v2, v3, some (.int x), v5] (.int x :: st) A Q := c_lcl i_109_145 rfl rfl
theorem q_109_147 : XX (d + 1) 109 147 [v0, v1, v2, v3, v4, v5] [.int x1, .ref a0] (mk S I L R G) Q ↔ S a0 = some (.inr 0) ∧ XC d 1 [.ref a0, .int x1] (mk S I L R G) (XK (d + 1) 109 147 [v0, v1, v2, v3, v4, v5] [] Q) := c_callV i_109_147 rfl rfl rfl rfl (Nat.le_of_ble_eq_true rfl) (Nat.le_of_ble_eq_true rfl) rfl
theorem q_109_150 : XX d 109 150 [v0, v1, v2, v3, v4, v5] [.int x] A Q ↔ Q (.inl (some (.int x))) A := e_retI i_109_150 rfl
theorem q_109_e : XC d 109 [.ref a0, .int x1, .int x2] A Q ↔ XX d 109 0 [some (.ref a0), some (.int x1), some (.int x2), none, none, none] [] A Q := Iff.rfl
theorem i_110_0 : t_ins 110 0 = some (.aload_n 0) := by decide +kernel
theorem i_110_1 : t_ins 110 1 = some (.iload_n 1) := by decide +kernel
theorem i_110_2 : t_ins 110 2 = some (.iconst 1) := by decide +kernel
theorem i_110_3 : t_ins 110 3 = some (.sipush 1000) := by decide +kernel
theorem i_110_6 : t_ins 110 6 = some (.invokevirtual 89) := by decide +kernel
theorem i_110_9 : t_ins 110 9 = some (.aload_n 0) := by decide +kernel
theorem i_110_10 : t_ins 110 10 = some (.getfield 19) := by decide +kernel
theorem i_110_13 : t_ins 110 13 = some (.getfield 137) := by decide +kernel
theorem i_110_16 : t_ins 110 16 = some (.istore_n 2) := by decide +kernel
theorem i_110_17 : t_ins 110 17 = some (.aload_n 0) := by decide +kernel
theorem i_110_18 : t_ins 110 18 = some (.getfield 26) := by decide +kernel
theorem i_110_21 : t_ins 110 21 = some (.aload_n 0) := by decide +kernel
theorem i_110_22 : t_ins 110 22 = some (.getfield 19) := by decide +kernel
theorem i_110_25 : t_ins 110 25 = some (.invokevirtual 109) := by decide +kernel
theorem i_110_28 : t_ins 110 28 = some (.aload_n 0) := by decide +kernel
theorem i_110_29 : t_ins 110 29 = some (.getfield 19) := by decide +kernel
theorem i_110_32 : t_ins 110 32 = some (.iload_n 1) := by decide +kernel
theorem i_110_33 : t_ins 110 33 = some (.putfield 137) := by decide +kernel
theorem i_110_36 : t_ins 110 36 = some (.iload_n 2) := by decide +kernel
theorem i_110_37 : t_ins 110 37 = some (.ireturn) := by decide +kernel
theorem q_110_0 : XX d 110 0 [some (.ref a), v1, v2] st A Q ↔ XX d 110 1 [some (.ref a), v1, v2] (.ref a :: st) A Q := c_lcl i_110_0 rfl rfl
theorem q_110_1 : XX d 110 1 [v0, some (.int x), v2] st A Q ↔ XX d 110 2 [v0, some (.int x), v2] (.int x :: st) A Q := c_lcl i_110_1 rfl rfl
theorem q_110_2 : XX d 110 2 [v0, v1, v2] st A Q ↔ XX d 110 3 [v0, v1, v2] (.int (w 1) :: st) A Q := c_stk i_110_2 rfl
theorem q_110_3 : XX d 110 3 [v0, v1, v2] st A Q ↔ XX d 110 6 [v0, v1, v2] (.int (w 1000) :: st) A Q := c_stk i_110_3 rfl
theorem q_110_6 : XX (d + 1) 110 6 [v0, v1, v2] [.int x3, .int x2, .int x1, .ref a0] (mk S I L R G) Q ↔ S a0 = some (.inr 11) ∧ XC d 146 [.ref a0, .int x1, .int x2, .int x3] (mk S I L R G) (XK (d + 1) 110 6 [v0, v1, v2] [] Q) := c_callV i_110_6 rfl rfl rfl rfl (Nat.le_of_ble_eq_true rfl) (Nat.le_of_ble_eq_true rfl) rfl
theorem q_110_9 : XX d 110 9 [some (.ref a), v1, v2] st A Q ↔ XX d 110 10 [some (.ref a), v1, v2] (.ref a :: st) A Q := c_lcl i_110_9 rfl rfl
theorem q_110_10 : XX d 110 10 [v0, v1, v2] (.ref a :: st) (mk S I L R G) Q ↔ S a = some (.inr 11) ∧ XX d 110 13 [v0, v1, v2] (.ref (a + 3) :: st) (mk S I L R G) Q := r_gf i_110_10 rfl (by decide) rfl
theorem q_110_13 : XX d 110 13 [v0, v1, v2] (.ref a :: st) (mk S I L R G) Q ↔ S a = some (.inr 0) ∧ XX d 110 16 [v0, v1, v2] (.int (I a 2) :: st) (mk S I L R G) Q := r_gf i_110_13 rfl (by decide) rfl
theorem q_110_16 : XX d 110 16 [v0, some (.int z), v2] (.int x :: st) A Q ↔ XX d 110 17 [v0, some (.int z), some (.int x)] st A Q := c_lcl i_110_16 rfl rfl
theorem q_110_17 : XX d 110 17 [some (.ref a), v1, v2] st A Q ↔ XX d 110 18 [some (.ref a), v1, v2] (.ref a :: st) A Q := c_lcl i_110_17 rfl rfl
theorem q_110_18 : XX d 110 18 [v0, v1, v2] (.ref a :: st) (mk S I L R G) Q ↔ S a = some (.inr 11) ∧ XX d 110 21 [v0, v1, v2] (.ref (a + 6) :: st) (mk S I L R G) Q := r_gf i_110_18 rfl (by decide) rfl
theorem q_110_21 : XX d 110 21 [some (.ref a), v1, v2] st A Q ↔ XX d 110 22 [some (.ref a), v1, v2] (.ref a :: st) A Q := c_lcl i_110_21 rfl rfl
theorem q_110_22 : XX d 110 22 [v0, v1, v2] (.ref a :: st) (mk S I L R G) Q ↔ S a = some (.inr 11) ∧ XX d 110 25 [v0, v1, v2] (.ref (a + 3) :: st) (mk S I L R G) Q := r_gf i_110_22 rfl (by decide) rfl
theorem q_110_25 : XX (d + 1) 110 25 [v0, v1, v2] [.ref a1, .ref a0] (mk S I L R G) Q ↔ S a0 = some (.inr 3) ∧ XC d 23 [.ref a0, .ref a1] (mk S I L R G) (XK (d + 1) 110 25 [v0, v1, v2] [] Q) := c_callV i_110_25 rfl rfl rfl rfl (Nat.le_of_ble_eq_true rfl) (Nat.le_of_ble_eq_true rfl) rfl
theorem q_110_28 : XX d 110 28 [some (.ref a), v1, v2] st A Q ↔ XX d 110 29 [some (.ref a), v1, v2] (.ref a :: st) A Q := c_lcl i_110_28 rfl rfl
theorem q_110_29 : XX d 110 29 [v0, v1, v2] (.ref a :: st) (mk S I L R G) Q ↔ S a = some (.inr 11) ∧ XX d 110 32 [v0, v1, v2] (.ref (a + 3) :: st) (mk S I L R G) Q := r_gf i_110_29 rfl (by decide) rfl
theorem q_110_32 : XX d 110 32 [v0, some (.int x), v2] st A Q ↔ XX d 110 33 [v0, some (.int x), v2] (.int x :: st) A Q := c_lcl i_110_32 rfl rfl
theorem q_110_33 : XX d 110 33 [v0, v1, v2] (.int x :: .ref a :: st) (mk S I L R G) Q ↔ S a = some (.inr 0) ∧ XX d 110 36 [v0, v1, v2] st (mk S (wr I a (up (I a) 2 x)) L R G) Q := r_pf i_110_33 rfl (by decide) rfl rfl rfl
theorem q_110_36 : XX d 110 36 [v0, v1, some (.int x)] st A Q ↔ XX d 110 37 [v0, v1, some (.int x)] (.int x :: st) A Q := c_lcl i_110_36 rfl rfl
theorem q_110_37 : XX d 110 37 [v0, v1, v2] [.int x] A Q ↔ Q (.inl (some (.int x))) A := e_retI i_110_37 rfl
theorem q_110_e : XC d 110 [.ref a0, .int x1] A Q ↔ XX d 110 0 [some (.ref a0), some (.int x1), none] [] A Q := Iff.rfl
theorem i_111_0 : t_ins 111 0 = some (.aload_n 0) := by decide +kernel
theorem i_111_1 : t_ins 111 1 = some (.iload_n 1) := by decide +kernel
theorem i_111_2 : t_ins 111 2 = some (.iload_n 2) := by decide +kernel
theorem i_111_3 : t_ins 111 3 = some (.invokevirtual 140) := by decide +kernel
theorem i_111_6 : t_ins 111 6 = some (.pop) := by decide +kernel
theorem i_111_7 : t_ins 111 7 = some (.aload_n 0) := by decide +kernel
theorem i_111_8 : t_ins 111 8 = some (.getfield 26) := by decide +kernel
theorem i_111_11 : t_ins 111 11 = some (.aload_n 0) := by decide +kernel
theorem i_111_12 : t_ins 111 12 = some (.getfield 19) := by decide +kernel
theorem i_111_15 : t_ins 111 15 = some (.invokevirtual 109) := by decide +kernel
theorem i_111_18 : t_ins 111 18 = some (.aload_n 0) := by decide +kernel
theorem i_111_19 : t_ins 111 19 = some (.getfield 19) := by decide +kernel
theorem i_111_22 : t_ins 111 22 = some (.iload_n 1) := by decide +kernel
theorem i_111_23 : t_ins 111 23 = some (.iload_n 2) := by decide +kernel
theorem i_111_24 : t_ins 111 24 = some (.invokevirtual 144) := by decide +kernel
theorem i_111_27 : t_ins 111 27 = some (.aload_n 0) := by decide +kernel
theorem i_111_28 : t_ins 111 28 = some (.iload_n 1) := by decide +kernel
theorem i_111_29 : t_ins 111 29 = some (.invokevirtual 130) := by decide +kernel
theorem i_111_32 : t_ins 111 32 = some (.aload_n 0) := by decide +kernel
theorem i_111_33 : t_ins 111 33 = some (.getfield 19) := by decide +kernel
theorem i_111_36 : t_ins 111 36 = some (.iload_n 1) := by decide +kernel
theorem i_111_37 : t_ins 111 37 = some (.invokevirtual 133) := by decide +kernel
theorem i_111_40 : t_ins 111 40 = some (.ireturn) := by decide +kernel
theorem q_111_0 : XX d 111 0 [some (.ref a), v1, v2] st A Q ↔ XX d 111 1 [some (.ref a), v1, v2] (.ref a :: st) A Q := c_lcl i_111_0 rfl rfl
theorem q_111_1 : XX d 111 1 [v0, some (.int x), v2] st A Q ↔ XX d 111 2 [v0, some (.int x), v2] (.int x :: st) A Q := c_lcl i_111_1 rfl rfl
theorem q_111_2 : XX d 111 2 [v0, v1, some (.int x)] st A Q ↔ XX d 111 3 [v0, v1, some (.int x)] (.int x :: st) A Q := c_lcl i_111_2 rfl rfl
theorem q_111_3 : XX (d + 1) 111 3 [v0, v1, v2] [.int x2, .int x1, .ref a0] (mk S I L R G) Q ↔ S a0 = some (.inr 11) ∧ XC d 144 [.ref a0, .int x1, .int x2] (mk S I L R G) (XK (d + 1) 111 3 [v0, v1, v2] [] Q) := c_callV i_111_3 rfl rfl rfl rfl (Nat.le_of_ble_eq_true rfl) (Nat.le_of_ble_eq_true rfl) rfl
theorem q_111_6 : XX d 111 6 [v0, v1, v2] (.ref a1 :: st) A Q ↔ XX d 111 7 [v0, v1, v2] st A Q := c_stk i_111_6 rfl
theorem q_111_7 : XX d 111 7 [some (.ref a), v1, v2] st A Q ↔ XX d 111 8 [some (.ref a), v1, v2] (.ref a :: st) A Q := c_lcl i_111_7 rfl rfl
theorem q_111_8 : XX d 111 8 [v0, v1, v2] (.ref a :: st) (mk S I L R G) Q ↔ S a = some (.inr 11) ∧ XX d 111 11 [v0, v1, v2] (.ref (a + 6) :: st) (mk S I L R G) Q := r_gf i_111_8 rfl (by decide) rfl
theorem q_111_11 : XX d 111 11 [some (.ref a), v1, v2] st A Q ↔ XX d 111 12 [some (.ref a), v1, v2] (.ref a :: st) A Q := c_lcl i_111_11 rfl rfl
theorem q_111_12 : XX d 111 12 [v0, v1, v2] (.ref a :: st) (mk S I L R G) Q ↔ S a = some (.inr 11) ∧ XX d 111 15 [v0, v1, v2] (.ref (a + 3) :: st) (mk S I L R G) Q := r_gf i_111_12 rfl (by decide) rfl
theorem q_111_15 : XX (d + 1) 111 15 [v0, v1, v2] [.ref a1, .ref a0] (mk S I L R G) Q ↔ S a0 = some (.inr 3) ∧ XC d 23 [.ref a0, .ref a1] (mk S I L R G) (XK (d + 1) 111 15 [v0, v1, v2] [] Q) := c_callV i_111_15 rfl rfl rfl rfl (Nat.le_of_ble_eq_true rfl) (Nat.le_of_ble_eq_true rfl) rfl
theorem q_111_18 : XX d 111 18 [some (.ref a), v1, v2] st A Q ↔ XX d 111 19 [some (.ref a), v1, v2] (.ref a :: st) A Q := c_lcl i_111_18 rfl rfl
theorem q_111_19 : XX d 111 19 [v0, v1, v2] (.ref a :: st) (mk S I L R G) Q ↔ S a = some (.inr 11) ∧ XX d 111 22 [v0, v1, v2] (.ref (a + 3) :: st) (mk S I L R G) Q := r_gf i_111_19 rfl (by decide) rfl
theorem q_111_22 : XX d 111 22 [v0, some (.int x), v2] st A Q ↔ XX d 111 23 [v0, some (.int x), v2] (.int x :: st) A Q := c_lcl i_111_22 rfl rfl
theorem q_111_23 : XX d 111 23 [v0, v1, some (.int x)] st A Q ↔ XX d 111 24 [v0, v1, some (.int x)] (.int x :: st) A Q := c_lcl i_111_23 rfl rfl
theorem q_111_24 : XX (d + 1) 111 24 [v0, v1, v2] [.int x2, .int x1, .ref a0] (mk S I L R G) Q ↔ S a0 = some (.inr 0) ∧ XC d 5 [.ref a0, .int x1, .int x2] (mk S I L R G) (XK (d + 1) 111 24 [v0, v1, v2] [] Q) := c_callV i_111_24 rfl rfl rfl rfl (Nat.le_of_ble_eq_true rfl) (Nat.le_of_ble_eq_true rfl) rfl
theorem q_111_27 : XX d 111 27 [some (.ref a), v1, v2] st A Q ↔ XX d 111 28 [some (.ref a), v1, v2] (.ref a :: st) A Q := c_lcl i_111_27 rfl rfl
theorem q_111_28 : XX d 111 28 [v0, some (.int x), v2] st A Q ↔ XX d 111 29 [v0, some (.int x), v2] (.int x :: st) A Q := c_lcl i_111_28 rfl rfl
theorem q_111_29 : XX (d + 1) 111 29 [v0, v1, v2] [.int x1, .ref a0] (mk S I L R G) Q ↔ S a0 = some (.inr 11) ∧ XC d 114 [.ref a0, .int x1] (mk S I L R G) (XK (d + 1) 111 29 [v0, v1, v2] [] Q) := c_callV i_111_29 rfl rfl rfl rfl (Nat.le_of_ble_eq_true rfl) (Nat.le_of_ble_eq_true rfl) rfl
theorem q_111_32 : XX d 111 32 [some (.ref a), v1, v2] st A Q ↔ XX d 111 33 [some (.ref a), v1, v2] (.ref a :: st) A Q := c_lcl i_111_32 rfl rfl
theorem q_111_33 : XX d 111 33 [v0, v1, v2] (.ref a :: st) (mk S I L R G) Q ↔ S a = some (.inr 11) ∧ XX d 111 36 [v0, v1, v2] (.ref (a + 3) :: st) (mk S I L R G) Q := r_gf i_111_33 rfl (by decide) rfl
theorem q_111_36 : XX d 111 36 [v0, some (.int x), v2] st A Q ↔ XX d 111 37 [v0, some (.int x), v2] (.int x :: st) A Q := c_lcl i_111_36 rfl rfl
theorem q_111_37 : XX (d + 1) 111 37 [v0, v1, v2] [.int x1, .ref a0] (mk S I L R G) Q ↔ S a0 = some (.inr 0) ∧ XC d 1 [.ref a0, .int x1] (mk S I L R G) (XK (d + 1) 111 37 [v0, v1, v2] [] Q) := c_callV i_111_37 rfl rfl rfl rfl (Nat.le_of_ble_eq_true rfl) (Nat.le_of_ble_eq_true rfl) rfl
theorem q_111_40 : XX d 111 40 [v0, v1, v2] [.int x] A Q ↔ Q (.inl (some (.int x))) A := e_retI i_111_40 rfl
theorem q_111_e : XC d 111 [.ref a0, .int x1, .int x2] A Q ↔ XX d 111 0 [some (.ref a0), some (.int x1), some (.int x2)] [] A Q := Iff.rfl
theorem i_112_0 : t_ins 112 0 = some (.aload_n 0) := by decide +kernel
theorem i_112_1 : t_ins 112 1 = some (.iload_n 1) := by decide +kernel
theorem i_112_2 : t_ins 112 2 = some (.iload_n 2) := by decide +kernel
theorem i_112_3 : t_ins 112 3 = some (.invokevirtual 140) := by decide +kernel
theorem i_112_6 : t_ins 112 6 = some (.pop) := by decide +kernel
theorem i_112_7 : t_ins 112 7 = some (.aload_n 0) := by decide +kernel
theorem i_112_8 : t_ins 112 8 = some (.iload_n 2) := by decide +kernel
theorem i_112_9 : t_ins 112 9 = some (.iconst 1) := by decide +kernel
theorem i_112_10 : t_ins 112 10 = some (.bipush 30) := by decide +kernel
theorem i_112_12 : t_ins 112 12 = some (.invokevirtual 89) := by decide +kernel
theorem i_112_15 : t_ins 112 15 = some (.aload_n 0) := by decide +kernel
theorem i_112_16 : t_ins 112 16 = some (.getfield 26) := by decide +kernel
theorem i_112_19 : t_ins 112 19 = some (.aload_n 0) := by decide +kernel
theorem i_112_20 : t_ins 112 20 = some (.getfield 19) := by decide +kernel
theorem i_112_23 : t_ins 112 23 = some (.invokevirtual 109) := by decide +kernel
theorem i_112_26 : t_ins 112 26 = some (.aload_n 0) := by decide +kernel
theorem i_112_27 : t_ins 112 27 = some (.getfield 19) := by decide +kernel
theorem i_112_30 : t_ins 112 30 = some (.iload_n 1) := by decide +kernel
theorem i_112_31 : t_ins 112 31 = some (.iload_n 2) := by decide +kernel
theorem i_112_32 : t_ins 112 32 = some (.invokevirtual 148) := by decide +kernel
theorem i_112_35 : t_ins 112 35 = some (.aload_n 0) := by decide +kernel
theorem i_112_36 : t_ins 112 36 = some (.getfield 50) := by decide +kernel
theorem i_112_39 : t_ins 112 39 = some (.aload_n 0) := by decide +kernel
theorem i_112_40 : t_ins 112 40 = some (.getfield 19) := by decide +kernel
theorem i_112_43 : t_ins 112 43 = some (.iload_n 1) := by decide +kernel
theorem i_112_44 : t_ins 112 44 = some (.iconst (-1)) := by decide +kernel
theorem i_112_45 : t_ins 112 45 = some (.invokevirtual 151) := by decide +kernel
theorem i_112_48 : t_ins 112 48 = some (.aload_n 0) := by decide +kernel
theorem i_112_49 : t_ins 112 49 = some (.getfield 50) := by decide +kernel
theorem i_112_52 : t_ins 112 52 = some (.aload_n 0) := by decide +kernel
theorem i_112_53 : t_ins 112 53 = some (.iload_n 1) := by decide +kernel
theorem i_112_54 : t_ins 112 54 = some (.invokevirtual 154) := by decide +kernel
theorem i_112_57 : t_ins 112 57 = some (.aload_n 0) := by decide +kernel
theorem i_112_58 : t_ins 112 58 = some (.getfield 19) := by decide +kernel
theorem i_112_61 : t_ins 112 61 = some (.getfield 137) := by decide +kernel
theorem i_112_64 : t_ins 112 64 = some (.sipush 1001) := by decide +kernel
theorem i_112_67 : t_ins 112 67 = some (.invokevirtual 158) := by decide +kernel
theorem i_112_70 : t_ins 112 70 = some (.istore_n 3) := by decide +kernel
theorem i_112_71 : t_ins 112 71 = some (.aload_n 0) := by decide +kernel
theorem i_112_72 : t_ins 112 72 = some (.iload_n 1) := by decide +kernel
theorem i_112_73 : t_ins 112 73 = some (.invokevirtual 130) := by decide +kernel
theorem i_112_76 : t_ins 112 76 = some (.iload_n 3) := by decide +kernel
theorem i_112_77 : t_ins 112 77 = some (.ireturn) := by decide +kernel
theorem q_112_0 : XX d 112 0 [some (.ref a), v1, v2, v3] st A Q ↔ XX d 112 1 [some (.ref a), v1, v2, v3] (.ref a :: st) A Q := c_lcl i_112_0 rfl rfl
theorem q_112_1 : XX d 112 1 [v0, some (.int x), v2, v3] st A Q ↔ XX d 112 2 [v0, some (.int x), v2, v3] (.int x :: st) A Q := c_lcl i_112_1 rfl rfl
theorem q_112_2 : XX d 112 2 [v0, v1, some (.int x), v3] st A Q ↔ XX d 112 3 [v0, v1, some (.int x), v3] (.int x :: st) A Q := c_lcl i_112_2 rfl rfl
theorem q_112_3 : XX (d + 1) 112 3 [v0, v1, v2, v3] [.int x2, .int x1, .ref a0] (mk S I L R G) Q ↔ S a0 = some (.inr 11) ∧ XC d 144 [.ref a0, .int x1, .int x2] (mk S I L R G) (XK (d + 1) 112 3 [v0, v1, v2, v3] [] Q) := c_callV i_112_3 rfl rfl rfl rfl (Nat.le_of_ble_eq_true rfl) (Nat.le_of_ble_eq_true rfl) rfl
theorem q_112_6 : XX d 112 6 [v0, v1, v2, v3] (.ref a1 :: st) A Q ↔ XX d 112 7 [v0, v1, v2, v3] st A Q := c_stk i_112_6 rfl
theorem q_112_7 : XX d 112 7 [some (.ref a), v1, v2, v3] st A Q ↔ XX d 112 8 [some (.ref a), v1, v2, v3] (.ref a :: st) A Q := c_lcl i_112_7 rfl rfl
theorem q_112_8 : XX d 112 8 [v0, v1, some (.int x), v3] st A Q ↔ XX d 112 9 [v0, v1, some (.int x), v3] (.int x :: st) A Q := c_lcl i_112_8 rfl rfl
theorem q_112_9 : XX d 112 9 [v0, v1, v2, v3] st A Q ↔ XX d 112 10 [v0, v1, v2, v3] (.int (w 1) :: st) A Q := c_stk i_112_9 rfl
theorem q_112_10 : XX d 112 10 [v0, v1, v2, v3] st A Q ↔ XX d 112 12 [v0, v1, v2, v3] (.int (w 30) :: st) A Q := c_stk i_112_10 rfl
theorem q_112_12 : XX (d + 1) 112 12 [v0, v1, v2, v3] [.int x3, .int x2, .int x1, .ref a0] (mk S I L R G) Q ↔ S a0 = some (.inr 11) ∧ XC d 146 [.ref a0, .int x1, .int x2, .int x3] (mk S I L R G) (XK (d + 1) 112 12 [v0, v1, v2, v3] [] Q) := c_callV i_112_12 rfl rfl rfl rfl (Nat.le_of_ble_eq_true rfl) (Nat.le_of_ble_eq_true rfl) rfl
theorem q_112_15 : XX d 112 15 [some (.ref a), v1, v2, v3] st A Q ↔ XX d 112 16 [some (.ref a), v1, v2, v3] (.ref a :: st) A Q := c_lcl i_112_15 rfl rfl
theorem q_112_16 : XX d 112 16 [v0, v1, v2, v3] (.ref a :: st) (mk S I L R G) Q ↔ S a = some (.inr 11) ∧ XX d 112 19 [v0, v1, v2, v3] (.ref (a + 6) :: st) (mk S I L R G) Q := r_gf i_112_16 rfl (by decide) rfl
theorem q_112_19 : XX d 112 19 [some (.ref a), v1, v2, v3] st A Q ↔ XX d 112 20 [some (.ref a), v1, v2, v3] (.ref a :: st) A Q := c_lcl i_112_19 rfl rfl
theorem q_112_20 : XX d 112 20 [v0, v1, v2, v3] (.ref a :: st) (mk S I L R G) Q ↔ S a = some (.inr 11) ∧ XX d 112 23 [v0, v1, v2, v3] (.ref (a + 3) :: st) (mk S I L R G) Q := r_gf i_112_20 rfl (by decide) rfl
theorem q_112_23 : XX (d + 1) 112 23 [v0, v1, v2, v3] [.ref a1, .ref a0] (mk S I L R G) Q ↔ S a0 = some (.inr 3) ∧ XC d 23 [.ref a0, .ref a1] (mk S I L R G) (XK (d + 1) 112 23 [v0, v1, v2, v3] [] Q) := c_callV i_112_23 rfl rfl rfl rfl (Nat.le_of_ble_eq_true rfl) (Nat.le_of_ble_eq_true rfl) rfl
theorem q_112_26 : XX d 112 26 [some (.ref a), v1, v2, v3] st A Q ↔ XX d 112 27 [some (.ref a), v1, v2, v3] (.ref a :: st) A Q := c_lcl i_112_26 rfl rfl
theorem q_112_27 : XX d 112 27 [v0, v1, v2, v3] (.ref a :: st) (mk S I L R G) Q ↔ S a = some (.inr 11) ∧ XX d 112 30 [v0, v1, v2, v3] (.ref (a + 3) :: st) (mk S I L R G) Q := r_gf i_112_27 rfl (by decide) rfl
theorem q_112_30 : XX d 112 30 [v0, some (.int x), v2, v3] st A Q ↔ XX d 112 31 [v0, some (.int x), v2, v3] (.int x :: st) A Q := c_lcl i_112_30 rfl rfl
theorem q_112_31 : XX d 112 31 [v0, v1, some (.int x), v3] st A Q ↔ XX d 112 32 [v0, v1, some (.int x), v3] (.int x :: st) A Q := c_lcl i_112_31 rfl rfl
theorem q_112_32 : XX (d + 1) 112 32 [v0, v1, v2, v3] [.int x2, .int x1, .ref a0] (mk S I L R G) Q ↔ S a0 = some (.inr 0) ∧ XC d 6 [.ref a0, .int x1, .int x2] (mk S I L R G) (XK (d + 1) 112 32 [v0, v1, v2, v3] [] Q) := c_callV i_112_32 rfl rfl rfl rfl (Nat.le_of_ble_eq_true rfl) (Nat.le_of_ble_eq_true rfl) rfl
theorem q_112_35 : XX d 112 35 [some (.ref a), v1, v2, v3] st A Q ↔ XX d 112 36 [some (.ref a), v1, v2, v3] (.ref a :: st) A Q := c_lcl i_112_35 rfl rfl
theorem q_112_36 : XX d 112 36 [v0, v1, v2, v3] (.ref a :: st) (mk S I L R G) Q ↔ S a = some (.inr 11) ∧ XX d 112 39 [v0, v1, v2, v3] (.ref (a + 91) :: st) (mk S I L R G) Q := r_gf i_112_36 rfl (by decide) rfl
theorem q_112_39 : XX d 112 39 [some (.ref a), v1, v2, v3] st A Q ↔ XX d 112 40 [some (.ref a), v1, v2, v3] (.ref a :: st) A Q := c_lcl i_112_39 rfl rfl
theorem q_112_40 : XX d 112 40 [v0, v1, v2, v3] (.ref a :: st) (mk S I L R G) Q ↔ S a = some (.inr 11) ∧ XX d 112 43 [v0, v1, v2, v3] (.ref (a + 3) :: st) (mk S I L R G) Q := r_gf i_112_40 rfl (by decide) rfl
theorem q_112_43 : XX d 112 43 [v0, some (.int x), v2, v3] st A Q ↔ XX d 112 44 [v0, some (.int x), v2, v3] (.int x :: st) A Q := c_lcl i_112_43 rfl rfl
theorem q_112_44 : XX d 112 44 [v0, v1, v2, v3] st A Q ↔ XX d 112 45 [v0, v1, v2, v3] (.int (w (-1)) :: st) A Q := c_stk i_112_44 rfl
theorem q_112_45 : XX (d + 1) 112 45 [v0, v1, v2, v3] [.int x3, .int x2, .ref a1, .ref a0] (mk S I L R G) Q ↔ S a0 = some (.inr 9) ∧ XC d 81 [.ref a0, .ref a1, .int x2, .int x3] (mk S I L R G) (XK (d + 1) 112 45 [v0, v1, v2, v3] [] Q) := c_callV i_112_45 rfl rfl rfl rfl (Nat.le_of_ble_eq_true rfl) (Nat.le_of_ble_eq_true rfl) rfl
theorem q_112_48 : XX d 112 48 [some (.ref a), v1, v2, v3] st A Q ↔ XX d 112 49 [some (.ref a), v1, v2, v3] (.ref a :: st) A Q := c_lcl i_112_48 rfl rfl
theorem q_112_49 : XX d 112 49 [v0, v1, v2, v3] (.ref a :: st) (mk S I L R G) Q ↔ S a = some (.inr 11) ∧ XX d 112 52 [v0, v1, v2, v3] (.ref (a + 91) :: st) (mk S I L R G) Q := r_gf i_112_49 rfl (by decide) rfl
theorem q_112_52 : XX d 112 52 [some (.ref a), v1, v2, v3] st A Q ↔ XX d 112 53 [some (.ref a), v1, v2, v3] (.ref a :: st) A Q := c_lcl i_112_52 rfl rfl
theorem q_112_53 : XX d 112 53 [v0, some (.int x), v2, v3] st A Q ↔ XX d 112 54 [v0, some (.int x), v2, v3] (.int x :: st) A Q := c_lcl i_112_53 rfl rfl
theorem q_112_54 : XX (d + 1) 112 54 [v0, v1, v2, v3] [.int x1, .ref a0, .ref a2] (mk S I L R G) Q ↔ S a0 = some (.inr 11) ∧ XC d 142 [.ref a0, .int x1] (mk S I L R G) (XK (d + 1) 112 54 [v0, v1, v2, v3] [.ref a2] Q) := c_callV i_112_54 rfl rfl rfl rfl (Nat.le_of_ble_eq_true rfl) (Nat.le_of_ble_eq_true rfl) rfl
theorem q_112_57 : XX d 112 57 [some (.ref a), v1, v2, v3] st A Q ↔ XX d 112 58 [some (.ref a), v1, v2, v3] (.ref a :: st) A Q := c_lcl i_112_57 rfl rfl
theorem q_112_58 : XX d 112 58 [v0, v1, v2, v3] (.ref a :: st) (mk S I L R G) Q ↔ S a = some (.inr 11) ∧ XX d 112 61 [v0, v1, v2, v3] (.ref (a + 3) :: st) (mk S I L R G) Q := r_gf i_112_58 rfl (by decide) rfl
theorem q_112_61 : XX d 112 61 [v0, v1, v2, v3] (.ref a :: st) (mk S I L R G) Q ↔ S a = some (.inr 0) ∧ XX d 112 64 [v0, v1, v2, v3] (.int (I a 2) :: st) (mk S I L R G) Q := r_gf i_112_61 rfl (by decide) rfl
theorem q_112_64 : XX d 112 64 [v0, v1, v2, v3] st A Q ↔ XX d 112 67 [v0, v1, v2, v3] (.int (w 1001) :: st) A Q := c_stk i_112_64 rfl
theorem q_112_67 : XX (d + 1) 112 67 [v0, v1, v2, v3] [.int x3, .int x2, .ref a1, .ref a0] (mk S I L R G) Q ↔ S a0 = some (.inr 9) ∧ XC d 88 [.ref a0, .ref a1, .int x2, .int x3] (mk S I L R G) (XK (d + 1) 112 67 [v0, v1, v2, v3] [] Q) := c_callV i_112_67 rfl rfl rfl rfl (Nat.le_of_ble_eq_true rfl) (Nat.le_of_ble_eq_true rfl) rfl
theorem q_112_70 : XX d 112 70 [v0, v1, some (.int z), v3] (.int x :: st) A Q ↔ XX d 112 71 [v0, v1, some (.int z), some (.int x)] st A Q := c_lcl i_112_70 rfl rfl
theorem q_112_71 : XX d 112 71 [some (.ref a), v1, v2, v3] st A Q ↔ XX d 112 72 [some (.ref a), v1, v2, v3] (.ref a :: st) A Q := c_lcl i_112_71 rfl rfl
theorem q_112_72 : XX d 112 72 [v0, some (.int x), v2, v3] st A Q ↔ XX d 112 73 [v0, some (.int x), v2, v3] (.int x :: st) A Q := c_lcl i_112_72 rfl rfl
theorem q_112_73 : XX (d + 1) 112 73 [v0, v1, v2, v3] [.int x1, .ref a0] (mk S I L R G) Q ↔ S a0 = some (.inr 11) ∧ XC d 114 [.ref a0, .int x1] (mk S I L R G) (XK (d + 1) 112 73 [v0, v1, v2, v3] [] Q) := c_callV i_112_73 rfl rfl rfl rfl (Nat.le_of_ble_eq_true rfl) (Nat.le_of_ble_eq_true rfl) rfl
theorem q_112_76 : XX d 112 76 [v0, v1, v2, some (.int x)] st A Q ↔ XX d 112 77 [v0, v1, v2, some (.int x)] (.int x :: st) A Q := c_lcl i_112_76 rfl rfl
theorem q_112_77 : XX d 112 77 [v0, v1, v2, v3] [.int x] A Q ↔ Q (.inl (some (.int x))) A := e_retI i_112_77 rfl
theorem q_112_e : XC d 112 [.ref a0, .int x1, .int x2] A Q ↔ XX d 112 0 [some (.ref a0), some (.int x1), some (.int x2), none] [] A Q := Iff.rfl
theorem i_113_0 : t_ins 113 0 = some (.aload_n 0) := by decide +kernel
theorem i_113_1 : t_ins 113 1 = some (.getfield 26) := by decide +kernel
theorem i_113_4 : t_ins 113 4 = some (.getfield 162) := by decide +kernel
theorem i_113_7 : t_ins 113 7 = some (.ifCond .ne 5) := by decide +kernel
theorem i_113_10 : t_ins 113 10 = some (.iconst (-1)) := by decide +kernel
theorem i_113_11 : t_ins 113 11 = some (.ireturn) := by decide +kernel
theorem i_113_12 : t_ins 113 12 = some (.aload_n 0) := by decide +kernel
theorem i_113_13 : t_ins 113 13 = some (.getfield 26) := by decide +kernel
theorem i_113_16 : t_ins 113 16 = some (.aload_n 0) := by decide +kernel
theorem i_113_17 : t_ins 113 17 = some (.getfield 19) := by decide +kernel
theorem i_113_20 : t_ins 113 20 = some (.invokevirtual 163) := by decide +kernel
theorem i_113_23 : t_ins 113 23 = some (.iconst 0) := by decide +kernel
theorem i_113_24 : t_ins 113 24 = some (.istore_n 1) := by decide +kernel
theorem i_113_25 : t_ins 113 25 = some (.iload_n 1) := by decide +kernel
theorem i_113_26 : t_ins 113 26 = some (.iconst 2) := by decide +kernel
theorem i_113_27 : t_ins 113 27 = some (.if_icmp .ge 14) := by decide +kernel
theorem i_113_30 : t_ins 113 30 = some (.aload_n 0) := by decide +kernel
theorem i_113_31 : t_ins 113 31 = some (.iload_n 1) := by decide +kernel
theorem i_113_32 : t_ins 113 32 = some (.invokevirtual 130) := by decide +kernel
theorem i_113_35 : t_ins 113 35 = some (.iinc 1 1) := by decide +kernel
theorem i_113_38 : t_ins 113 38 = some (.goto (-13)) := by decide +kernel
theorem i_113_41 : t_ins 113 41 = some (.aload_n 0) := by decide +kernel
theorem i_113_42 : t_ins 113 42 = some (.getfield 26) := by decide +kernel
theorem i_113_45 : t_ins 113 45 = some (.getfield 162) := by decide +kernel
theorem i_113_48 : t_ins 113 48 = some (.ireturn) := by decide +kernel
theorem q_113_0 : XX d 113 0 [some (.ref a), v1] st A Q ↔ XX d 113 1 [some (.ref a), v1] (.ref a :: st) A Q := c_lcl i_113_0 rfl rfl
theorem q_113_1 : XX d 113 1 [v0, v1] (.ref a :: st) (mk S I L R G) Q ↔ S a = some (.inr 11) ∧ XX d 113 4 [v0, v1] (.ref (a + 6) :: st) (mk S I L R G) Q := r_gf i_113_1 rfl (by decide) rfl
theorem q_113_4 : XX d 113 4 [v0, v1] (.ref a :: st) (mk S I L R G) Q ↔ S a = some (.inr 3) ∧ XX d 113 7 [v0, v1] (.int (I a 2) :: st) (mk S I L R G) Q := r_gf i_113_4 rfl (by decide) rfl
theorem q_113_7 : XX d 113 7 [v0, v1] (.int x :: st) A Q ↔ if x = w 0 then XX d 113 10 [v0, v1] st A Q else XX d 113 12 [v0, v1] st A Q := z_ne i_113_7 rfl rfl rfl
theorem q_113_10 : XX d 113 10 [v0, v1] st A Q ↔ XX d 113 11 [v0, v1] (.int (w (-1)) :: st) A Q := c_stk i_113_10 rfl
theorem q_113_11 : XX d 113 11 [v0, v1] [.int x] A Q ↔ Q (.inl (some (.int x))) A := e_retI i_113_11 rfl
theorem q_113_12 : XX d 113 12 [some (.ref a), v1] st A Q ↔ XX d 113 13 [some (.ref a), v1] (.ref a :: st) A Q := c_lcl i_113_12 rfl rfl
theorem q_113_13 : XX d 113 13 [v0, v1] (.ref a :: st) (mk S I L R G) Q ↔ S a = some (.inr 11) ∧ XX d 113 16 [v0, v1] (.ref (a + 6) :: st) (mk S I L R G) Q := r_gf i_113_13 rfl (by decide) rfl
theorem q_113_16 : XX d 113 16 [some (.ref a), v1] st A Q ↔ XX d 113 17 [some (.ref a), v1] (.ref a :: st) A Q := c_lcl i_113_16 rfl rfl
theorem q_113_17 : XX d 113 17 [v0, v1] (.ref a :: st) (mk S I L R G) Q ↔ S a = some (.inr 11) ∧ XX d 113 20 [v0, v1] (.ref (a + 3) :: st) (mk S I L R G) Q := r_gf i_113_17 rfl (by decide) rfl
theorem q_113_20 : XX (d + 1) 113 20 [v0, v1] [.ref a1, .ref a0] (mk S I L R G) Q ↔ S a0 = some (.inr 3) ∧ XC d 24 [.ref a0, .ref a1] (mk S I L R G) (XK (d + 1) 113 20 [v0, v1] [] Q) := c_callV i_113_20 rfl rfl rfl rfl (Nat.le_of_ble_eq_true rfl) (Nat.le_of_ble_eq_true rfl) rfl
theorem q_113_23 : XX d 113 23 [v0, v1] st A Q ↔ XX d 113 24 [v0, v1] (.int (w 0) :: st) A Q := c_stk i_113_23 rfl
theorem q_113_24 : XX d 113 24 [some (.ref b), v1] (.int x :: st) A Q ↔ XX d 113 25 [some (.ref b), some (.int x)] st A Q := c_lcl i_113_24 rfl rfl
theorem q_113_25 : XX d 113 25 [v0, some (.int x)] st A Q ↔ XX d 113 26 [v0, some (.int x)] (.int x :: st) A Q := c_lcl i_113_25 rfl rfl
theorem q_113_26 : XX d 113 26 [v0, v1] st A Q ↔ XX d 113 27 [v0, v1] (.int (w 2) :: st) A Q := c_stk i_113_26 rfl
theorem q_113_27 : XX d 113 27 [v0, v1] (.int y :: .int x :: st) A Q ↔ if x < y then XX d 113 30 [v0, v1] st A Q else XX d 113 41 [v0, v1] st A Q := b_ge i_113_27 rfl rfl rfl
theorem q_113_30 : XX d 113 30 [some (.ref a), v1] st A Q ↔ XX d 113 31 [some (.ref a), v1] (.ref a :: st) A Q := c_lcl i_113_30 rfl rfl
theorem q_113_31 : XX d 113 31 [v0, some (.int x)] st A Q ↔ XX d 113 32 [v0, some (.int x)] (.int x :: st) A Q := c_lcl i_113_31 rfl rfl
theorem q_113_32 : XX (d + 1) 113 32 [v0, v1] [.int x1, .ref a0] (mk S I L R G) Q ↔ S a0 = some (.inr 11) ∧ XC d 114 [.ref a0, .int x1] (mk S I L R G) (XK (d + 1) 113 32 [v0, v1] [] Q) := c_callV i_113_32 rfl rfl rfl rfl (Nat.le_of_ble_eq_true rfl) (Nat.le_of_ble_eq_true rfl) rfl
theorem q_113_35 : XX d 113 35 [some (.ref b), some (.int x)] st A Q ↔ XX d 113 38 [some (.ref b), some (.int (x + w 1))] st A Q := c_lcl i_113_35 rfl rfl
theorem q_113_38 : XX d 113 38 [v0, v1] st A Q ↔ XX d 113 25 [v0, v1] st A Q := c_go i_113_38 rfl rfl
theorem q_113_41 : XX d 113 41 [some (.ref a), v1] st A Q ↔ XX d 113 42 [some (.ref a), v1] (.ref a :: st) A Q := c_lcl i_113_41 rfl rfl
theorem q_113_42 : XX d 113 42 [v0, v1] (.ref a :: st) (mk S I L R G) Q ↔ S a = some (.inr 11) ∧ XX d 113 45 [v0, v1] (.ref (a + 6) :: st) (mk S I L R G) Q := r_gf i_113_42 rfl (by decide) rfl
theorem q_113_45 : XX d 113 45 [v0, v1] (.ref a :: st) (mk S I L R G) Q ↔ S a = some (.inr 3) ∧ XX d 113 48 [v0, v1] (.int (I a 2) :: st) (mk S I L R G) Q := r_gf i_113_45 rfl (by decide) rfl
theorem q_113_48 : XX d 113 48 [v0, v1] [.int x] A Q ↔ Q (.inl (some (.int x))) A := e_retI i_113_48 rfl
theorem q_113_e : XC d 113 [.ref a0] A Q ↔ XX d 113 0 [some (.ref a0), none] [] A Q := Iff.rfl
theorem i_114_0 : t_ins 114 0 = some (.aload_n 0) := by decide +kernel
theorem i_114_1 : t_ins 114 1 = some (.iload_n 1) := by decide +kernel
theorem i_114_2 : t_ins 114 2 = some (.invokevirtual 166) := by decide +kernel
theorem i_114_5 : t_ins 114 5 = some (.astore_n 2) := by decide +kernel
theorem i_114_6 : t_ins 114 6 = some (.aload_n 2) := by decide +kernel
theorem i_114_7 : t_ins 114 7 = some (.getfield 170) := by decide +kernel
theorem i_114_10 : t_ins 114 10 = some (.aload_n 0) := by decide +kernel
theorem i_114_11 : t_ins 114 11 = some (.getfield 19) := by decide +kernel
theorem i_114_14 : t_ins 114 14 = some (.iload_n 1) := by decide +kernel
theorem i_114_15 : t_ins 114 15 = some (.iconst (-1)) := by decide +kernel
theorem i_114_16 : t_ins 114 16 = some (.invokevirtual 151) := by decide +kernel
theorem i_114_19 : t_ins 114 19 = some (.aload_n 2) := by decide +kernel
theorem i_114_20 : t_ins 114 20 = some (.invokevirtual 173) := by decide +kernel
theorem i_114_23 : t_ins 114 23 = some (.return_) := by decide +kernel
theorem q_114_0 : XX d 114 0 [some (.ref a), v1, v2] st A Q ↔ XX d 114 1 [some (.ref a), v1, v2] (.ref a :: st) A Q := c_lcl i_114_0 rfl rfl
theorem q_114_1 : XX d 114 1 [v0, some (.int x), v2] st A Q ↔ XX d 114 2 [v0, some (.int x), v2] (.int x :: st) A Q := c_lcl i_114_1 rfl rfl
theorem q_114_2 : XX (d + 1) 114 2 [v0, v1, v2] [.int x1, .ref a0] (mk S I L R G) Q ↔ S a0 = some (.inr 11) ∧ XC d 141 [.ref a0, .int x1] (mk S I L R G) (XK (d + 1) 114 2 [v0, v1, v2] [] Q) := c_callV i_114_2 rfl rfl rfl rfl (Nat.le_of_ble_eq_true rfl) (Nat.le_of_ble_eq_true rfl) rfl
theorem q_114_5 : XX d 114 5 [v0, some (.int z), v2] (.ref a :: st) A Q ↔ XX d 114 6 [v0, some (.int z), some (.ref a)] st A Q := c_lcl i_114_5 rfl rfl
theorem q_114_6 : XX d 114 6 [v0, v1, some (.ref a)] st A Q ↔ XX d 114 7 [v0, v1, some (.ref a)] (.ref a :: st) A Q := c_lcl i_114_6 rfl rfl
theorem q_114_7 : XX d 114 7 [v0, v1, v2] (.ref a :: st) (mk S I L R G) Q ↔ S a = some (.inr 5) ∧ XX d 114 10 [v0, v1, v2] (.ref (a + 1) :: st) (mk S I L R G) Q := r_gf i_114_7 rfl (by decide) rfl
theorem q_114_10 : XX d 114 10 [some (.ref a), v1, v2] st A Q ↔ XX d 114 11 [some (.ref a), v1, v2] (.ref a :: st) A Q := c_lcl i_114_10 rfl rfl
theorem q_114_11 : XX d 114 11 [v0, v1, v2] (.ref a :: st) (mk S I L R G) Q ↔ S a = some (.inr 11) ∧ XX d 114 14 [v0, v1, v2] (.ref (a + 3) :: st) (mk S I L R G) Q := r_gf i_114_11 rfl (by decide) rfl
theorem q_114_14 : XX d 114 14 [v0, some (.int x), v2] st A Q ↔ XX d 114 15 [v0, some (.int x), v2] (.int x :: st) A Q := c_lcl i_114_14 rfl rfl
theorem q_114_15 : XX d 114 15 [v0, v1, v2] st A Q ↔ XX d 114 16 [v0, v1, v2] (.int (w (-1)) :: st) A Q := c_stk i_114_15 rfl
theorem q_114_16 : XX (d + 1) 114 16 [v0, v1, v2] [.int x3, .int x2, .ref a1, .ref a0] (mk S I L R G) Q ↔ S a0 = some (.inr 9) ∧ XC d 81 [.ref a0, .ref a1, .int x2, .int x3] (mk S I L R G) (XK (d + 1) 114 16 [v0, v1, v2] [] Q) := c_callV i_114_16 rfl rfl rfl rfl (Nat.le_of_ble_eq_true rfl) (Nat.le_of_ble_eq_true rfl) rfl
theorem q_114_19 : XX d 114 19 [v0, v1, some (.ref a)] st A Q ↔ XX d 114 20 [v0, v1, some (.ref a)] (.ref a :: st) A Q := c_lcl i_114_19 rfl rfl
theorem q_114_20 : XX (d + 1) 114 20 [v0, v1, v2] [.ref a0] (mk S I L R G) Q ↔ S a0 = some (.inr 5) ∧ XC d 42 [.ref a0] (mk S I L R G) (XK (d + 1) 114 20 [v0, v1, v2] [] Q) := c_callV i_114_20 rfl rfl rfl rfl (Nat.le_of_ble_eq_true rfl) (Nat.le_of_ble_eq_true rfl) rfl
theorem q_114_23 : XX d 114 23 [v0, v1, v2] [] A Q ↔ Q (.inl none) A := e_retN i_114_23 rfl
theorem q_114_e : XC d 114 [.ref a0, .int x1] A Q ↔ XX d 114 0 [some (.ref a0), some (.int x1), none] [] A Q := Iff.rfl
theorem i_115_0 : t_ins 115 0 = some (.aload_n 0) := by decide +kernel
theorem i_115_1 : t_ins 115 1 = some (.iload_n 1) := by decide +kernel
theorem i_115_2 : t_ins 115 2 = some (.iconst 0) := by decide +kernel
theorem i_115_3 : t_ins 115 3 = some (.iconst 4) := by decide +kernel
theorem i_115_4 : t_ins 115 4 = some (.invokevirtual 89) := by decide +kernel
theorem i_115_7 : t_ins 115 7 = some (.iload_n 1) := by decide +kernel
theorem i_115_8 : t_ins 115 8 = some (.tableswitch 65 0 3 #[32, 40, 48, 56]) := by decide +kernel
theorem i_115_40 : t_ins 115 40 = some (.aload_n 0) := by decide +kernel
theorem i_115_41 : t_ins 115 41 = some (.getfield 19) := by decide +kernel
theorem i_115_44 : t_ins 115 44 = some (.getfield 137) := by decide +kernel
theorem i_115_47 : t_ins 115 47 = some (.ireturn) := by decide +kernel
theorem i_115_48 : t_ins 115 48 = some (.aload_n 0) := by decide +kernel
theorem i_115_49 : t_ins 115 49 = some (.getfield 12) := by decide +kernel
theorem i_115_52 : t_ins 115 52 = some (.getfield 82) := by decide +kernel
theorem i_115_55 : t_ins 115 55 = some (.ireturn) := by decide +kernel
theorem i_115_56 : t_ins 115 56 = some (.aload_n 0) := by decide +kernel
theorem i_115_57 : t_ins 115 57 = some (.getfield 26) := by decide +kernel
theorem i_115_60 : t_ins 115 60 = some (.getfield 162) := by decide +kernel
theorem i_115_63 : t_ins 115 63 = some (.ireturn) := by decide +kernel
theorem i_115_64 : t_ins 115 64 = some (.aload_n 0) := by decide +kernel
theorem i_115_65 : t_ins 115 65 = some (.getfield 19) := by decide +kernel
theorem i_115_68 : t_ins 115 68 = some (.iconst 0) := by decide +kernel
theorem i_115_69 : t_ins 115 69 = some (.invokevirtual 133) := by decide +kernel
theorem i_115_72 : t_ins 115 72 = some (.ireturn) := by decide +kernel
theorem i_115_73 : t_ins 115 73 = some (.aload_n 0) := by decide +kernel
theorem i_115_74 : t_ins 115 74 = some (.getfield 19) := by decide +kernel
theorem i_115_77 : t_ins 115 77 = some (.iconst 1) := by decide +kernel
theorem i_115_78 : t_ins 115 78 = some (.invokevirtual 133) := by decide +kernel
theorem i_115_81 : t_ins 115 81 = some (.ireturn) := by decide +kernel
theorem q_115_0 : XX d 115 0 [some (.ref a), v1] st A Q ↔ XX d 115 1 [some (.ref a), v1] (.ref a :: st) A Q := c_lcl i_115_0 rfl rfl
theorem q_115_1 : XX d 115 1 [v0, some (.int x)] st A Q ↔ XX d 115 2 [v0, some (.int x)] (.int x :: st) A Q := c_lcl i_115_1 rfl rfl
theorem q_115_2 : XX d 115 2 [v0, v1] st A Q ↔ XX d 115 3 [v0, v1] (.int (w 0) :: st) A Q := c_stk i_115_2 rfl
theorem q_115_3 : XX d 115 3 [v0, v1] st A Q ↔ XX d 115 4 [v0, v1] (.int (w 4) :: st) A Q := c_stk i_115_3 rfl
theorem q_115_4 : XX (d + 1) 115 4 [v0, v1] [.int x3, .int x2, .int x1, .ref a0] (mk S I L R G) Q ↔ S a0 = some (.inr 11) ∧ XC d 146 [.ref a0, .int x1, .int x2, .int x3] (mk S I L R G) (XK (d + 1) 115 4 [v0, v1] [] Q) := c_callV i_115_4 rfl rfl rfl rfl (Nat.le_of_ble_eq_true rfl) (Nat.le_of_ble_eq_true rfl) rfl
theorem q_115_7 : XX d 115 7 [v0, some (.int x)] st A Q ↔ XX d 115 8 [v0, some (.int x)] (.int x :: st) A Q := c_lcl i_115_7 rfl rfl
theorem q_115_8 : XX d 115 8 [v0, v1] (.int x :: st) A Q ↔ XX d 115 (swT [40, 48, 56, 64] 73 0 x.toInt) [v0, v1] st A Q := c_tab i_115_8 rfl rfl rfl rfl
theorem q_115_40 : XX d 115 40 [some (.ref a), v1] st A Q ↔ XX d 115 41 [some (.ref a), v1] (.ref a :: st) A Q := c_lcl i_115_40 rfl rfl
theorem q_115_41 : XX d 115 41 [v0, v1] (.ref a :: st) (mk S I L R G) Q ↔ S a = some (.inr 11) ∧ XX d 115 44 [v0, v1] (.ref (a + 3) :: st) (mk S I L R G) Q := r_gf i_115_41 rfl (by decide) rfl
theorem q_115_44 : XX d 115 44 [v0, v1] (.ref a :: st) (mk S I L R G) Q ↔ S a = some (.inr 0) ∧ XX d 115 47 [v0, v1] (.int (I a 2) :: st) (mk S I L R G) Q := r_gf i_115_44 rfl (by decide) rfl
theorem q_115_47 : XX d 115 47 [v0, v1] [.int x] A Q ↔ Q (.inl (some (.int x))) A := e_retI i_115_47 rfl
theorem q_115_48 : XX d 115 48 [some (.ref a), v1] st A Q ↔ XX d 115 49 [some (.ref a), v1] (.ref a :: st) A Q := c_lcl i_115_48 rfl rfl
theorem q_115_49 : XX d 115 49 [v0, v1] (.ref a :: st) (mk S I L R G) Q ↔ S a = some (.inr 11) ∧ XX d 115 52 [v0, v1] (.ref (a + 1) :: st) (mk S I L R G) Q := r_gf i_115_49 rfl (by decide) rfl
theorem q_115_52 : XX d 115 52 [v0, v1] (.ref a :: st) (mk S I L R G) Q ↔ S a = some (.inr 7) ∧ XX d 115 55 [v0, v1] (.int (I a 1) :: st) (mk S I L R G) Q := r_gf i_115_52 rfl (by decide) rfl
theorem q_115_55 : XX d 115 55 [v0, v1] [.int x] A Q ↔ Q (.inl (some (.int x))) A := e_retI i_115_55 rfl
theorem q_115_56 : XX d 115 56 [some (.ref a), v1] st A Q ↔ XX d 115 57 [some (.ref a), v1] (.ref a :: st) A Q := c_lcl i_115_56 rfl rfl
theorem q_115_57 : XX d 115 57 [v0, v1] (.ref a :: st) (mk S I L R G) Q ↔ S a = some (.inr 11) ∧ XX d 115 60 [v0, v1] (.ref (a + 6) :: st) (mk S I L R G) Q := r_gf i_115_57 rfl (by decide) rfl
theorem q_115_60 : XX d 115 60 [v0, v1] (.ref a :: st) (mk S I L R G) Q ↔ S a = some (.inr 3) ∧ XX d 115 63 [v0, v1] (.int (I a 2) :: st) (mk S I L R G) Q := r_gf i_115_60 rfl (by decide) rfl
theorem q_115_63 : XX d 115 63 [v0, v1] [.int x] A Q ↔ Q (.inl (some (.int x))) A := e_retI i_115_63 rfl
theorem q_115_64 : XX d 115 64 [some (.ref a), v1] st A Q ↔ XX d 115 65 [some (.ref a), v1] (.ref a :: st) A Q := c_lcl i_115_64 rfl rfl
theorem q_115_65 : XX d 115 65 [v0, v1] (.ref a :: st) (mk S I L R G) Q ↔ S a = some (.inr 11) ∧ XX d 115 68 [v0, v1] (.ref (a + 3) :: st) (mk S I L R G) Q := r_gf i_115_65 rfl (by decide) rfl
theorem q_115_68 : XX d 115 68 [v0, v1] st A Q ↔ XX d 115 69 [v0, v1] (.int (w 0) :: st) A Q := c_stk i_115_68 rfl
theorem q_115_69 : XX (d + 1) 115 69 [v0, v1] [.int x1, .ref a0] (mk S I L R G) Q ↔ S a0 = some (.inr 0) ∧ XC d 1 [.ref a0, .int x1] (mk S I L R G) (XK (d + 1) 115 69 [v0, v1] [] Q) := c_callV i_115_69 rfl rfl rfl rfl (Nat.le_of_ble_eq_true rfl) (Nat.le_of_ble_eq_true rfl) rfl
theorem q_115_72 : XX d 115 72 [v0, v1] [.int x] A Q ↔ Q (.inl (some (.int x))) A := e_retI i_115_72 rfl
theorem q_115_73 : XX d 115 73 [some (.ref a), v1] st A Q ↔ XX d 115 74 [some (.ref a), v1] (.ref a :: st) A Q := c_lcl i_115_73 rfl rfl
theorem q_115_74 : XX d 115 74 [v0, v1] (.ref a :: st) (mk S I L R G) Q ↔ S a = some (.inr 11) ∧ XX d 115 77 [v0, v1] (.ref (a + 3) :: st) (mk S I L R G) Q := r_gf i_115_74 rfl (by decide) rfl
theorem q_115_77 : XX d 115 77 [v0, v1] st A Q ↔ XX d 115 78 [v0, v1] (.int (w 1) :: st) A Q := c_stk i_115_77 rfl
theorem q_115_78 : XX (d + 1) 115 78 [v0, v1] [.int x1, .ref a0] (mk S I L R G) Q ↔ S a0 = some (.inr 0) ∧ XC d 1 [.ref a0, .int x1] (mk S I L R G) (XK (d + 1) 115 78 [v0, v1] [] Q) := c_callV i_115_78 rfl rfl rfl rfl (Nat.le_of_ble_eq_true rfl) (Nat.le_of_ble_eq_true rfl) rfl
theorem q_115_81 : XX d 115 81 [v0, v1] [.int x] A Q ↔ Q (.inl (some (.int x))) A := e_retI i_115_81 rfl
theorem q_115_e : XC d 115 [.ref a0, .int x1] A Q ↔ XX d 115 0 [some (.ref a0), some (.int x1)] [] A Q := Iff.rfl
theorem i_116_0 : t_ins 116 0 = some (.aload_n 0) := by decide +kernel
theorem i_116_1 : t_ins 116 1 = some (.iload_n 1) := by decide +kernel
theorem i_116_2 : t_ins 116 2 = some (.iload_n 2) := by decide +kernel
theorem i_116_3 : t_ins 116 3 = some (.invokevirtual 140) := by decide +kernel
theorem i_116_6 : t_ins 116 6 = some (.astore 4) := by decide +kernel
theorem i_116_8 : t_ins 116 8 = some (.aload_n 0) := by decide +kernel
theorem i_116_9 : t_ins 116 9 = some (.iload_n 3) := by decide +kernel
theorem i_116_10 : t_ins 116 10 = some (.iconst 0) := by decide +kernel
theorem i_116_11 : t_ins 116 11 = some (.iconst 5) := by decide +kernel
theorem i_116_12 : t_ins 116 12 = some (.invokevirtual 89) := by decide +kernel
theorem i_116_15 : t_ins 116 15 = some (.iload_n 3) := by decide +kernel
theorem i_116_16 : t_ins 116 16 = some (.tableswitch 66 0 4 #[36, 42, 48, 54, 60]) := by decide +kernel
theorem i_116_52 : t_ins 116 52 = some (.aload 4) := by decide +kernel
theorem i_116_54 : t_ins 116 54 = some (.getfield 176) := by decide +kernel
theorem i_116_57 : t_ins 116 57 = some (.ireturn) := by decide +kernel
theorem i_116_58 : t_ins 116 58 = some (.aload 4) := by decide +kernel
theorem i_116_60 : t_ins 116 60 = some (.getfield 181) := by decide +kernel
theorem i_116_63 : t_ins 116 63 = some (.ireturn) := by decide +kernel
theorem i_116_64 : t_ins 116 64 = some (.aload 4) := by decide +kernel
theorem i_116_66 : t_ins 116 66 = some (.getfield 184) := by decide +kernel
theorem i_116_69 : t_ins 116 69 = some (.ireturn) := by decide +kernel
theorem i_116_70 : t_ins 116 70 = some (.aload 4) := by decide +kernel
theorem i_116_72 : t_ins 116 72 = some (.getfield 187) := by decide +kernel
theorem i_116_75 : t_ins 116 75 = some (.ireturn) := by decide +kernel
theorem i_116_76 : t_ins 116 76 = some (.aload 4) := by decide +kernel
theorem i_116_78 : t_ins 116 78 = some (.invokevirtual 190) := by decide +kernel
theorem i_116_81 : t_ins 116 81 = some (.ireturn) := by decide +kernel
theorem i_116_82 : t_ins 116 82 = some (.aload_n 0) := by decide +kernel
theorem i_116_83 : t_ins 116 83 = some (.iload_n 1) := by decide +kernel
theorem i_116_84 : t_ins 116 84 = some (.invokevirtual 154) := by decide +kernel
theorem i_116_87 : t_ins 116 87 = some (.iload_n 2) := by decide +kernel
theorem i_116_88 : t_ins 116 88 = some (.aload_n 0) := by decide +kernel
theorem i_116_89 : t_ins 116 89 = some (.getfield 19) := by decide +kernel
theorem i_116_92 : t_ins 116 92 = some (.getfield 137) := by decide +kernel
theorem i_116_95 : t_ins 116 95 = some (.invokevirtual 193) := by decide +kernel
theorem i_116_98 : t_ins 116 98 = some (.ireturn) := by decide +kernel
theorem q_116_0 : XX d 116 0 [some (.ref a), v1, v2, v3, v4] st A Q ↔ XX d 116 1 [some (.ref a), v1, v2, v3, v4] (.ref a :: st) A Q := c_lcl i_116_0 rfl rfl
theorem q_116_1 : XX d 116 1 [v0, some (.int x), v2, v3, v4] st A Q ↔ XX d 116 2 [v0, some (.int x), v2, v3, v4] (.int x :: st) A Q := c_lcl i_116_1 rfl rfl
theorem q_116_2 : XX d 116 2 [v0, v1, some (.int x), v3, v4] st A Q ↔ XX d 116 3 [v0, v1, some (.int x), v3, v4] (.int x :: st) A Q := c_lcl i_116_2 rfl rfl
theorem q_116_3 : XX (d + 1) 116 3 [v0, v1, v2, v3, v4] [.int x2, .int x1, .ref a0] (mk S I L R G) Q ↔ S a0 = some (.inr 11) ∧ XC d 144 [.ref a0, .int x1, .int x2] (mk S I L R G) (XK (d + 1) 116 3 [v0, v1, v2, v3, v4] [] Q) := c_callV i_116_3 rfl rfl rfl rfl (Nat.le_of_ble_eq_true rfl) (Nat.le_of_ble_eq_true rfl) rfl
theorem q_116_6 : XX d 116 6 [v0, v1, v2, some (.int z), v4] (.ref a :: st) A Q ↔ XX d 116 8 [v0, v1, v2, some (.int z), some (.ref a)] st A Q := c_lcl i_116_6 rfl rfl
theorem q_116_8 : XX d 116 8 [some (.ref a), v1, v2, v3, v4] st A Q ↔ XX d 116 9 [some (.ref a), v1, v2, v3, v4] (.ref a :: st) A Q := c_lcl i_116_8 rfl rfl
theorem q_116_9 : XX d 116 9 [v0, v1, v2, some (.int x), v4] st A Q ↔ XX d 116 10 [v0, v1, v2, some (.int x), v4] (.int x :: st) A Q := c_lcl i_116_9 rfl rfl
theorem q_116_10 : XX d 116 10 [v0, v1, v2, v3, v4] st A Q ↔ XX d 116 11 [v0, v1, v2, v3, v4] (.int (w 0) :: st) A Q := c_stk i_116_10 rfl
theorem q_116_11 : XX d 116 11 [v0, v1, v2, v3, v4] st A Q ↔ XX d 116 12 [v0, v1, v2, v3, v4] (.int (w 5) :: st) A Q := c_stk i_116_11 rfl
theorem q_116_12 : XX (d + 1) 116 12 [v0, v1, v2, v3, v4] [.int x3, .int x2, .int x1, .ref a0] (mk S I L R G) Q ↔ S a0 = some (.inr 11) ∧ XC d 146 [.ref a0, .int x1, .int x2, .int x3] (mk S I L R G) (XK (d + 1) 116 12 [v0, v1, v2, v3, v4] [] Q) := c_callV i_116_12 rfl rfl rfl rfl (Nat.le_of_ble_eq_true rfl) (Nat.le_of_ble_eq_true rfl) rfl
theorem q_116_15 : XX d 116 15 [v0, v1, v2, some (.int x), v4] st A Q ↔ XX d 116 16 [v0, v1, v2, some (.int x), v4] (.int x :: st) A Q := c_lcl i_116_15 rfl rfl
theorem q_116_16 : XX d 116 16 [v0, v1, v2, v3, v4] (.int x :: st) A Q ↔ XX d 116 (swT [52, 58, 64, 70, 76] 82 0 x.toInt) [v0, v1, v2, v3, v4] st A Q := c_tab i_116_16 rfl rfl rfl rfl
theorem q_116_52 : XX d 116 52 [v0, v1, v2, v3, some (.ref a)] st A Q ↔ XX d 116 54 [v0, v1, v2, v3, some (.ref a)] (.ref a :: st) A Q := c_lcl i_116_52 rfl rfl
theorem q_116_54 : XX d 116 54 [v0, v1, v2, v3, v4] (.ref a :: st) (mk S I L R G) Q ↔ S a = some (.inr 6) ∧ XX d 116 57 [v0, v1, v2, v3, v4] (.int (I a 0) :: st) (mk S I L R G) Q := r_gf i_116_54 rfl (by decide) rfl
theorem q_116_57 : XX d 116 57 [v0, v1, v2, v3, v4] [.int x] A Q ↔ Q (.inl (some (.int x))) A := e_retI i_116_57 rfl
theorem q_116_58 : XX d 116 58 [v0, v1, v2, v3, some (.ref a)] st A Q ↔ XX d 116 60 [v0, v1, v2, v3, some (.ref a)] (.ref a :: st) A Q := c_lcl i_116_58 rfl rfl
theorem q_116_60 : XX d 116 60 [v0, v1, v2, v3, v4] (.ref a :: st) (mk S I L R G) Q ↔ S a = some (.inr 6) ∧ XX d 116 63 [v0, v1, v2, v3, v4] (.int (I a 1) :: st) (mk S I L R G) Q := r_gf i_116_60 rfl (by decide) rfl
theorem q_116_63 : XX d 116 63 [v0, v1, v2, v3, v4] [.int x] A Q ↔ Q (.inl (some (.int x))) A := e_retI i_116_63 rfl
theorem q_116_64 : XX d 116 64 [v0, v1, v2, v3, some (.ref a)] st A Q ↔ XX d 116 66 [v0, v1, v2, v3, some (.ref a)] (.ref a :: st) A Q := c_lcl i_116_64 rfl rfl
theorem q_116_66 : XX d 116 66 [v0, v1, v2, v3, v4] (.ref a :: st) (mk S I L R G) Q ↔ S a = some (.inr 6) ∧ XX d 116 69 [v0, v1, v2, v3, v4] (.int (I a 2) :: st) (mk S I L R G) Q := r_gf i_116_66 rfl (by decide) rfl
theorem q_116_69 : XX d 116 69 [v0, v1, v2, v3, v4] [.int x] A Q ↔ Q (.inl (some (.int x))) A := e_retI i_116_69 rfl
theorem q_116_70 : XX d 116 70 [v0, v1, v2, v3, some (.ref a)] st A Q ↔ XX d 116 72 [v0, v1, v2, v3, some (.ref a)] (.ref a :: st) A Q := c_lcl i_116_70 rfl rfl
theorem q_116_72 : XX d 116 72 [v0, v1, v2, v3, v4] (.ref a :: st) (mk S I L R G) Q ↔ S a = some (.inr 6) ∧ XX d 116 75 [v0, v1, v2, v3, v4] (.int (I a 3) :: st) (mk S I L R G) Q := r_gf i_116_72 rfl (by decide) rfl
theorem q_116_75 : XX d 116 75 [v0, v1, v2, v3, v4] [.int x] A Q ↔ Q (.inl (some (.int x))) A := e_retI i_116_75 rfl
theorem q_116_76 : XX d 116 76 [v0, v1, v2, v3, some (.ref a)] st A Q ↔ XX d 116 78 [v0, v1, v2, v3, some (.ref a)] (.ref a :: st) A Q := c_lcl i_116_76 rfl rfl
theorem q_116_78 : XX (d + 1) 116 78 [v0, v1, v2, v3, v4] [.ref a0] (mk S I L R G) Q ↔ S a0 = some (.inr 6) ∧ XC d 55 [.ref a0] (mk S I L R G) (XK (d + 1) 116 78 [v0, v1, v2, v3, v4] [] Q) := c_callV i_116_78 rfl rfl rfl rfl (Nat.le_of_ble_eq_true rfl) (Nat.le_of_ble_eq_true rfl) rfl
theorem q_116_81 : XX d 116 81 [v0, v1, v2, v3, v4] [.int x] A Q ↔ Q (.inl (some (.int x))) A := e_retI i_116_81 rfl
theorem q_116_82 : XX d 116 82 [some (.ref a), v1, v2, v3, v4] st A Q ↔ XX d 116 83 [some (.ref a), v1, v2, v3, v4] (.ref a :: st) A Q := c_lcl i_116_82 rfl rfl
theorem q_116_83 : XX d 116 83 [v0, some (.int x), v2, v3, v4] st A Q ↔ XX d 116 84 [v0, some (.int x), v2, v3, v4] (.int x :: st) A Q := c_lcl i_116_83 rfl rfl
theorem q_116_84 : XX (d + 1) 116 84 [v0, v1, v2, v3, v4] [.int x1, .ref a0] (mk S I L R G) Q ↔ S a0 = some (.inr 11) ∧ XC d 142 [.ref a0, .int x1] (mk S I L R G) (XK (d + 1) 116 84 [v0, v1, v2, v3, v4] [] Q) := c_callV i_116_84 rfl rfl rfl rfl (Nat.le_of_ble_eq_true rfl) (Nat.le_of_ble_eq_true rfl) rfl
theorem q_116_87 : XX d 116 87 [v0, v1, some (.int x), v3, v4] st A Q ↔ XX d 116 88 [v0, v1, some (.int x), v3, v4] (.int x :: st) A Q := c_lcl i_116_87 rfl rfl
theorem q_116_88 : XX d 116 88 [some (.ref a), v1, v2, v3, v4] st A Q ↔ XX d 116 89 [some (.ref a), v1, v2, v3, v4] (.ref a :: st) A Q := c_lcl i_116_88 rfl rfl
theorem q_116_89 : XX d 116 89 [v0, v1, v2, v3, v4] (.ref a :: st) (mk S I L R G) Q ↔ S a = some (.inr 11) ∧ XX d 116 92 [v0, v1, v2, v3, v4] (.ref (a + 3) :: st) (mk S I L R G) Q := r_gf i_116_89 rfl (by decide) rfl
theorem q_116_92 : XX d 116 92 [v0, v1, v2, v3, v4] (.ref a :: st) (mk S I L R G) Q ↔ S a = some (.inr 0) ∧ XX d 116 95 [v0, v1, v2, v3, v4] (.int (I a 2) :: st) (mk S I L R G) Q := r_gf i_116_92 rfl (by decide) rfl
theorem q_116_95 : XX (d + 1) 116 95 [v0, v1, v2, v3, v4] [.int x2, .int x1, .ref a0] (mk S I L R G) Q ↔ S a0 = some (.inr 9) ∧ XC d 83 [.ref a0, .int x1, .int x2] (mk S I L R G) (XK (d + 1) 116 95 [v0, v1, v2, v3, v4] [] Q) := c_callV i_116_95 rfl rfl rfl rfl (Nat.le_of_ble_eq_true rfl) (Nat.le_of_ble_eq_true rfl) rfl
theorem q_116_98 : XX d 116 98 [v0, v1, v2, v3, v4] [.int x] A Q ↔ Q (.inl (some (.int x))) A := e_retI i_116_98 rfl
theorem q_116_e : XC d 116 [.ref a0, .int x1, .int x2, .int x3] A Q ↔ XX d 116 0 [some (.ref a0), some (.int x1), some (.int x2), some (.int x3), none] [] A Q := Iff.rfl
theorem i_117_0 : t_ins 117 0 = some (.aload_n 0) := by decide +kernel
theorem i_117_1 : t_ins 117 1 = some (.iload_n 1) := by decide +kernel
theorem i_117_2 : t_ins 117 2 = some (.iload_n 2) := by decide +kernel
theorem i_117_3 : t_ins 117 3 = some (.invokevirtual 140) := by decide +kernel
theorem i_117_6 : t_ins 117 6 = some (.astore 5) := by decide +kernel
theorem i_117_8 : t_ins 117 8 = some (.aload_n 0) := by decide +kernel
theorem i_117_9 : t_ins 117 9 = some (.iload_n 3) := by decide +kernel
theorem i_117_10 : t_ins 117 10 = some (.aload 5) := by decide +kernel
theorem i_117_12 : t_ins 117 12 = some (.invokevirtual 190) := by decide +kernel
theorem i_117_15 : t_ins 117 15 = some (.invokevirtual 197) := by decide +kernel
theorem i_117_18 : t_ins 117 18 = some (.aload_n 0) := by decide +kernel
theorem i_117_19 : t_ins 117 19 = some (.iload 4) := by decide +kernel
theorem i_117_21 : t_ins 117 21 = some (.iconst 0) := by decide +kernel
theorem i_117_22 : t_ins 117 22 = some (.iconst 1) := by decide +kernel
theorem i_117_23 : t_ins 117 23 = some (.invokevirtual 89) := by decide +kernel
theorem i_117_26 : t_ins 117 26 = some (.iload 4) := by decide +kernel
theorem i_117_28 : t_ins 117 28 = some (.ifCond .ne 12) := by decide +kernel
theorem i_117_31 : t_ins 117 31 = some (.aload 5) := by decide +kernel
theorem i_117_33 : t_ins 117 33 = some (.iload_n 3) := by decide +kernel
theorem i_117_34 : t_ins 117 34 = some (.invokevirtual 200) := by decide +kernel
theorem i_117_37 : t_ins 117 37 = some (.goto 9) := by decide +kernel
theorem i_117_40 : t_ins 117 40 = some (.aload 5) := by decide +kernel
theorem i_117_42 : t_ins 117 42 = some (.iload_n 3) := by decide +kernel
theorem i_117_43 : t_ins 117 43 = some (.invokevirtual 203) := by decide +kernel
theorem i_117_46 : t_ins 117 46 = some (.ireturn) := by decide +kernel
theorem q_117_0 : XX d 117 0 [some (.ref a), v1, v2, v3, v4, v5] st A Q ↔ XX d 117 1 [some (.ref a), v1, v2, v3, v4, v5] (.ref a :: st) A Q := c_lcl i_117_0 rfl rfl
theorem q_117_1 : XX d 117 1 [v0, some (.int x), v2, v3, v4, v5] st A Q ↔ XX d 117 2 [v0, some (.int x), v2, v3, v4, v5] (.int x :: st) A Q := c_lcl i_117_1 rfl rfl
theorem q_117_2 : XX d 117 2 [v0, v1, some (.int x), v3, v4, v5] st A Q ↔ XX d 117 3 [v0, v1, some (.int x), v3, v4, v5] (.int x :: st) A Q := c_lcl i_117_2 rfl rfl
theorem q_117_3 : XX (d + 1) 117 3 [v0, v1, v2, v3, v4, v5] [.int x2, .int x1, .ref a0] (mk S I L R G) Q ↔ S a0 = some (.inr 11) ∧ XC d 144 [.ref a0, .int x1, .int x2] (mk S I L R G) (XK (d + 1) 117 3 [v0, v1, v2, v3, v4, v5] [] Q) := c_callV i_117_3 rfl rfl rfl rfl (Nat.le_of_ble_eq_true rfl) (Nat.le_of_ble_eq_true rfl) rfl
theorem q_117_6 : XX d 117 6 [v0, v1, v2, v3, some (.int z), v5] (.ref a :: st) A Q ↔ XX d 117 8 [v0, v1, v2, v3, some (.int z), some (.ref a)] st A Q := c_lcl i_117_6 rfl rfl
theorem q_117_8 : XX d 117 8 [some (.ref a), v1, v2, v3, v4, v5] st A Q ↔ XX d 117 9 [some (.ref a), v1, v2, v3, v4, v5] (.ref a :: st) A Q := c_lcl i_117_8 rfl rfl
theorem q_117_9 : XX d 117 9 [v0, v1, v2, some (.int x), v4, v5] st A Q ↔ XX d 117 10 [v0, v1, v2, some (.int x), v4, v5] (.int x :: st) A Q := c_lcl i_117_9 rfl rfl
theorem q_117_10 : XX d 117 10 [v0, v1, v2, v3, v4, some (.ref a)] st A Q ↔ XX d 117 12 [v0, v1, v2, v3, v4, some (.ref a)] (.ref a :: st) A Q := c_lcl i_117_10 rfl rfl
theorem q_117_12 : XX (d + 1) 117 12 [v0, v1, v2, v3, v4, v5] [.ref a0, .int x1, .ref a2] (mk S I L R G) Q ↔ S a0 = some (.inr 6) ∧ XC d 55 [.ref a0] (mk S I L R G) (XK (d + 1) 117 12 [v0, v1, v2, v3, v4, v5] [.int x1, .ref a2] Q) := c_callV i_117_12 rfl rfl rfl rfl (Nat.le_of_ble_eq_true rfl) (Nat.le_of_ble_eq_true rfl) rfl
theorem q_117_15 : XX (d + 1) 117 15 [v0, v1, v2, v3, v4, v5] [.int x2, .int x1, .ref a0] (mk S I L R G) Q ↔ S a0 = some (.inr 11) ∧ XC d 145 [.ref a0, .int x1, .int x2] (mk S I L R G) (XK (d + 1) 117 15 [v0, v1, v2, v3, v4, v5] [] Q) := c_callV i_117_15 rfl rfl rfl rfl (Nat.le_of_ble_eq_true rfl) (Nat.le_of_ble_eq_true rfl) rfl
theorem q_117_18 : XX d 117 18 [some (.ref a), v1, v2, v3, v4, v5] st A Q ↔ XX d 117 19 [some (.ref a), v1, v2, v3, v4, v5] (.ref a :: st) A Q := c_lcl i_117_18 rfl rfl
theorem q_117_19 : XX d 117 19 [v0, v1, v2, v3, some (.int x), v5] st A Q ↔ XX d 117 21 [v0, v1, v2, v3, some (.int x), v5] (.int x :: st) A Q := c_lcl i_117_19 rfl rfl
theorem q_117_21 : XX d 117 21 [v0, v1, v2, v3, v4, v5] st A Q ↔ XX d 117 22 [v0, v1, v2, v3, v4, v5] (.int (w 0) :: st) A Q := c_stk i_117_21 rfl
theorem q_117_22 : XX d 117 22 [v0, v1, v2, v3, v4, v5] st A Q ↔ XX d 117 23 [v0, v1, v2, v3, v4, v5] (.int (w 1) :: st) A Q := c_stk i_117_22 rfl
theorem q_117_23 : XX (d + 1) 117 23 [v0, v1, v2, v3, v4, v5] [.int x3, .int x2, .int x1, .ref a0] (mk S I L R G) Q ↔ S a0 = some (.inr 11) ∧ XC d 146 [.ref a0, .int x1, .int x2, .int x3] (mk S I L R G) (XK (d + 1) 117 23 [v0, v1, v2, v3, v4, v5] [] Q) := c_callV i_117_23 rfl rfl rfl rfl (Nat.le_of_ble_eq_true rfl) (Nat.le_of_ble_eq_true rfl) rfl
theorem q_117_26 : XX d 117 26 [v0, v1, v2, v3, some (.int x), v5] st A Q ↔ XX d 117 28 [v0, v1, v2, v3, some (.int x), v5] (.int x :: st) A Q := c_lcl i_117_26 rfl rfl
theorem q_117_28 : XX d 117 28 [v0, v1, v2, v3, v4, v5] (.int x :: st) A Q ↔ if x = w 0 then XX d 117 31 [v0, v1, v2, v3, v4, v5] st A Q else XX d 117 40 [v0, v1, v2, v3, v4, v5] st A Q := z_ne i_117_28 rfl rfl rfl
theorem q_117_31 : XX d 117 31 [v0, v1, v2, v3, v4, some (.ref a)] st A Q ↔ XX d 117 33 [v0, v1, v2, v3, v4, some (.ref a)] (.ref a :: st) A Q := c_lcl i_117_31 rfl rfl
theorem q_117_33 : XX d 117 33 [v0, v1, v2, some (.int x), v4, v5] st A Q ↔ XX d 117 34 [v0, v1, v2, some (.int x), v4, v5] (.int x :: st) A Q := c_lcl i_117_33 rfl rfl
theorem q_117_34 : XX (d + 1) 117 34 [v0, v1, v2, v3, v4, v5] [.int x1, .ref a0] (mk S I L R G) Q ↔ S a0 = some (.inr 6) ∧ XC d 57 [.ref a0, .int x1] (mk S I L R G) (XK (d + 1) 117 34 [v0, v1, v2, v3, v4, v5] [] Q) := c_callV i_117_34 rfl rfl rfl rfl (Nat.le_of_ble_eq_true rfl) (Nat.le_of_ble_eq_true rfl) rfl
theorem q_117_37 : XX d 117 37 [v0, v1, v2, v3, v4, v5] st A Q ↔ XX d 117 46 [v0, v1, v2, v3, v4, v5] st A Q := c_go i_117_37 rfl rfl
theorem q_117_40 : XX d 117 40 [v0, v1, v2, v3, v4, some (.ref a)] st A Q ↔ XX d 117 42 [v0, v1, v2, v3, v4, some (.ref a)] (.ref a :: st) A Q := c_lcl i_117_40 rfl rfl
theorem q_117_42 : XX d 117 42 [v0, v1, v2, some (.int x), v4, v5] st A Q ↔ XX d 117 43 [v0, v1, v2, some (.int x), v4, v5] (.int x :: st) A Q := c_lcl i_117_42 rfl rfl
theorem q_117_43 : XX (d + 1) 117 43 [v0, v1, v2, v3, v4, v5] [.int x1, .ref a0] (mk S I L R G) Q ↔ S a0 = some (.inr 6) ∧ XC d 58 [.ref a0, .int x1] (mk S I L R G) (XK (d + 1) 117 43 [v0, v1, v2, v3, v4, v5] [] Q) := c_callV i_117_43 rfl rfl rfl rfl (Nat.le_of_ble_eq_true rfl) (Nat.le_of_ble_eq_true rfl) rfl
theorem q_117_46 : XX d 117 46 [v0, v1, v2, v3, v4, v5] [.int x] A Q ↔ Q (.inl (some (.int x))) A := e_retI i_117_46 rfl
theorem q_117_e : XC d 117 [.ref a0, .int x1, .int x2, .int x3, .int x4] A Q ↔ XX d 117 0 [some (.ref a0), some (.int x1), some (.int x2), some (.int x3), some (.int x4), none] [] A Q := Iff.rfl
theorem i_118_0 : t_ins 118 0 = some (.aload_n 0) := by decide +kernel
theorem i_118_1 : t_ins 118 1 = some (.iload_n 1) := by decide +kernel
theorem i_118_2 : t_ins 118 2 = some (.invokevirtual 206) := by decide +kernel
theorem i_118_5 : t_ins 118 5 = some (.aload_n 0) := by decide +kernel
theorem i_118_6 : t_ins 118 6 = some (.iload_n 2) := by decide +kernel
theorem i_118_7 : t_ins 118 7 = some (.iconst 0) := by decide +kernel
theorem i_118_8 : t_ins 118 8 = some (.ldc 209) := by decide +kernel
theorem i_118_10 : t_ins 118 10 = some (.invokevirtual 89) := by decide +kernel
theorem i_118_13 : t_ins 118 13 = some (.aload_n 0) := by decide +kernel
theorem i_118_14 : t_ins 118 14 = some (.iload_n 1) := by decide +kernel
theorem i_118_15 : t_ins 118 15 = some (.invokevirtual 154) := by decide +kernel
theorem i_118_18 : t_ins 118 18 = some (.iload_n 2) := by decide +kernel
theorem i_118_19 : t_ins 118 19 = some (.invokevirtual 210) := by decide +kernel
theorem i_118_22 : t_ins 118 22 = some (.ireturn) := by decide +kernel
theorem q_118_0 : XX d 118 0 [some (.ref a), v1, v2] st A Q ↔ XX d 118 1 [some (.ref a), v1, v2] (.ref a :: st) A Q := c_lcl i_118_0 rfl rfl
theorem q_118_1 : XX d 118 1 [v0, some (.int x), v2] st A Q ↔ XX d 118 2 [v0, some (.int x), v2] (.int x :: st) A Q := c_lcl i_118_1 rfl rfl
theorem q_118_2 : XX (d + 1) 118 2 [v0, v1, v2] [.int x1, .ref a0] (mk S I L R G) Q ↔ S a0 = some (.inr 11) ∧ XC d 143 [.ref a0, .int x1] (mk S I L R G) (XK (d + 1) 118 2 [v0, v1, v2] [] Q) := c_callV i_118_2 rfl rfl rfl rfl (Nat.le_of_ble_eq_true rfl) (Nat.le_of_ble_eq_true rfl) rfl
theorem q_118_5 : XX d 118 5 [some (.ref a), v1, v2] st A Q ↔ XX d 118 6 [some (.ref a), v1, v2] (.ref a :: st) A Q := c_lcl i_118_5 rfl rfl
theorem q_118_6 : XX d 118 6 [v0, v1, some (.int x)] st A Q ↔ XX d 118 7 [v0, v1, some (.int x)] (.int x :: st) A Q := c_lcl i_118_6 rfl rfl
theorem q_118_7 : XX d 118 7 [v0, v1, v2] st A Q ↔ XX d 118 8 [v0, v1, v2] (.int (w 0) :: st) A Q := c_stk i_118_7 rfl
theorem q_118_8 : XX d 118 8 [v0, v1, v2] st A Q ↔ XX d 118 10 [v0, v1, v2] (.int (w 999999999) :: st) A Q := r_ldc i_118_8 rfl
theorem q_118_10 : XX (d + 1) 118 10 [v0, v1, v2] [.int x3, .int x2, .int x1, .ref a0] (mk S I L R G) Q ↔ S a0 = some (.inr 11) ∧ XC d 146 [.ref a0, .int x1, .int x2, .int x3] (mk S I L R G) (XK (d + 1) 118 10 [v0, v1, v2] [] Q) := c_callV i_118_10 rfl rfl rfl rfl (Nat.le_of_ble_eq_true rfl) (Nat.le_of_ble_eq_true rfl) rfl
theorem q_118_13 : XX d 118 13 [some (.ref a), v1, v2] st A Q ↔ XX d 118 14 [some (.ref a), v1, v2] (.ref a :: st) A Q := c_lcl i_118_13 rfl rfl
theorem q_118_14 : XX d 118 14 [v0, some (.int x), v2] st A Q ↔ XX d 118 15 [v0, some (.int x), v2] (.int x :: st) A Q := c_lcl i_118_14 rfl rfl
theorem q_118_15 : XX (d + 1) 118 15 [v0, v1, v2] [.int x1, .ref a0] (mk S I L R G) Q ↔ S a0 = some (.inr 11) ∧ XC d 142 [.ref a0, .int x1] (mk S I L R G) (XK (d + 1) 118 15 [v0, v1, v2] [] Q) := c_callV i_118_15 rfl rfl rfl rfl (Nat.le_of_ble_eq_true rfl) (Nat.le_of_ble_eq_true rfl) rfl
theorem q_118_18 : XX d 118 18 [v0, v1, some (.int x)] st A Q ↔ XX d 118 19 [v0, v1, some (.int x)] (.int x :: st) A Q := c_lcl i_118_18 rfl rfl
theorem q_118_19 : XX (d + 1) 118 19 [v0, v1, v2] [.int x1, .ref a0] (mk S I L R G) Q ↔ S a0 = some (.inr 9) ∧ XC d 82 [.ref a0, .int x1] (mk S I L R G) (XK (d + 1) 118 19 [v0, v1, v2] [] Q) := c_callV i_118_19 rfl rfl rfl rfl (Nat.le_of_ble_eq_true rfl) (Nat.le_of_ble_eq_true rfl) rfl
theorem q_118_22 : XX d 118 22 [v0, v1, v2] [.int x] A Q ↔ Q (.inl (some (.int x))) A := e_retI i_118_22 rfl
theorem q_118_e : XC d 118 [.ref a0, .int x1, .int x2] A Q ↔ XX d 118 0 [some (.ref a0), some (.int x1), some (.int x2)] [] A Q := Iff.rfl
theorem i_119_0 : t_ins 119 0 = some (.aload_n 0) := by decide +kernel
theorem i_119_1 : t_ins 119 1 = some (.iload_n 1) := by decide +kernel
theorem i_119_2 : t_ins 119 2 = some (.invokevirtual 206) := by decide +kernel
theorem i_119_5 : t_ins 119 5 = some (.aload_n 0) := by decide +kernel
theorem i_119_6 : t_ins 119 6 = some (.iload_n 3) := by decide +kernel
theorem i_119_7 : t_ins 119 7 = some (.iconst 0) := by decide +kernel
theorem i_119_8 : t_ins 119 8 = some (.iconst 2) := by decide +kernel
theorem i_119_9 : t_ins 119 9 = some (.invokevirtual 89) := by decide +kernel
theorem i_119_12 : t_ins 119 12 = some (.aload_n 0) := by decide +kernel
theorem i_119_13 : t_ins 119 13 = some (.iload_n 1) := by decide +kernel
theorem i_119_14 : t_ins 119 14 = some (.invokevirtual 154) := by decide +kernel
theorem i_119_17 : t_ins 119 17 = some (.astore 4) := by decide +kernel
theorem i_119_19 : t_ins 119 19 = some (.aload 4) := by decide +kernel
theorem i_119_21 : t_ins 119 21 = some (.iload_n 2) := by decide +kernel
theorem i_119_22 : t_ins 119 22 = some (.invokevirtual 213) := by decide +kernel
theorem i_119_25 : t_ins 119 25 = some (.ifCond .ne 5) := by decide +kernel
theorem i_119_28 : t_ins 119 28 = some (.iconst (-1)) := by decide +kernel
theorem i_119_29 : t_ins 119 29 = some (.ireturn) := by decide +kernel
theorem i_119_30 : t_ins 119 30 = some (.iload_n 3) := by decide +kernel
theorem i_119_31 : t_ins 119 31 = some (.lookupswitch 45 #[(0, 25), (1, 35)]) := by decide +kernel
theorem i_119_56 : t_ins 119 56 = some (.aload 4) := by decide +kernel
theorem i_119_58 : t_ins 119 58 = some (.getfield 217) := by decide +kernel
theorem i_119_61 : t_ins 119 61 = some (.iload_n 2) := by decide +kernel
theorem i_119_62 : t_ins 119 62 = some (.invokevirtual 221) := by decide +kernel
theorem i_119_65 : t_ins 119 65 = some (.ireturn) := by decide +kernel
theorem i_119_66 : t_ins 119 66 = some (.aload 4) := by decide +kernel
theorem i_119_68 : t_ins 119 68 = some (.getfield 217) := by decide +kernel
theorem i_119_71 : t_ins 119 71 = some (.iload_n 2) := by decide +kernel
theorem i_119_72 : t_ins 119 72 = some (.invokevirtual 226) := by decide +kernel
theorem i_119_75 : t_ins 119 75 = some (.ireturn) := by decide +kernel
theorem i_119_76 : t_ins 119 76 = some (.aload 4) := by decide +kernel
theorem i_119_78 : t_ins 119 78 = some (.getfield 217) := by decide +kernel
theorem i_119_81 : t_ins 119 81 = some (.iload_n 2) := by decide +kernel
theorem i_119_82 : t_ins 119 82 = some (.invokevirtual 229) := by decide +kernel
theorem i_119_85 : t_ins 119 85 = some (.ireturn) := by decide +kernel
theorem q_119_0 : XX d 119 0 [some (.ref a), v1, v2, v3, v4] st A Q ↔ XX d 119 1 [some (.ref a), v1, v2, v3, v4] (.ref a :: st) A Q := c_lcl i_119_0 rfl rfl
theorem q_119_1 : XX d 119 1 [v0, some (.int x), v2, v3, v4] st A Q ↔ XX d 119 2 [v0, some (.int x), v2, v3, v4] (.int x :: st) A Q := c_lcl i_119_1 rfl rfl
theorem q_119_2 : XX (d + 1) 119 2 [v0, v1, v2, v3, v4] [.int x1, .ref a0] (mk S I L R G) Q ↔ S a0 = some (.inr 11) ∧ XC d 143 [.ref a0, .int x1] (mk S I L R G) (XK (d + 1) 119 2 [v0, v1, v2, v3, v4] [] Q) := c_callV i_119_2 rfl rfl rfl rfl (Nat.le_of_ble_eq_true rfl) (Nat.le_of_ble_eq_true rfl) rfl
theorem q_119_5 : XX d 119 5 [some (.ref a), v1, v2, v3, v4] st A Q ↔ XX d 119 6 [some (.ref a), v1, v2, v3, v4] (.ref a :: st) A Q := c_lcl i_119_5 rfl rfl
theorem q_119_6 : XX d 119 6 [v0, v1, v2, some (.int x), v4] st A Q ↔ XX d 119 7 [v0, v1, v2, some (.int x), v4] (.int x :: st) A Q := c_lcl i_119_6 rfl rfl
theorem q_119_7 : XX d 119 7 [v0, v1, v2, v3, v4] st A Q ↔ XX d 119 8 [v0, v1, v2, v3, v4] (.int (w 0) :: st) A Q := c_stk i_119_7 rfl
theorem q_119_8 : XX d 119 8 [v0, v1, v2, v3, v4] st A Q ↔ XX d 119 9 [v0, v1, v2, v3, v4] (.int (w 2) :: st) A Q := c_stk i_119_8 rfl
theorem q_119_9 : XX (d + 1) 119 9 [v0, v1, v2, v3, v4] [.int x3, .int x2, .int x1, .ref a0] (mk S I L R G) Q ↔ S a0 = some (.inr 11) ∧ XC d 146 [.ref a0, .int x1, .int x2, .int x3] (mk S I L R G) (XK (d + 1) 119 9 [v0, v1, v2, v3, v4] [] Q) := c_callV i_119_9 rfl rfl rfl rfl (Nat.le_of_ble_eq_true rfl) (Nat.le_of_ble_eq_true rfl) rfl
theorem q_119_12 : XX d 119 12 [some (.ref a), v1, v2, v3, v4] st A Q ↔ XX d 119 13 [some (.ref a), v1, v2, v3, v4] (.ref a :: st) A Q := c_lcl i_119_12 rfl rfl
theorem q_119_13 : XX d 119 13 [v0, some (.int x), v2, v3, v4] st A Q ↔ XX d 119 14 [v0, some (.int x), v2, v3, v4] (.int x :: st) A Q := c_lcl i_119_13 rfl rfl
theorem q_119_14 : XX (d + 1) 119 14 [v0, v1, v2, v3, v4] [.int x1, .ref a0] (mk S I L R G) Q ↔ S a0 = some (.inr 11) ∧ XC d 142 [.ref a0, .int x1] (mk S I L R G) (XK (d + 1) 119 14 [v0, v1, v2, v3, v4] [] Q) := c_callV i_119_14 rfl rfl rfl rfl (Nat.le_of_ble_eq_true rfl) (Nat.le_of_ble_eq_true rfl) rfl
theorem q_119_17 : XX d 119 17 [v0, v1, v2, some (.int z), v4] (.ref a :: st) A Q ↔ XX d 119 19 [v0, v1, v2, some (.int z), some (.ref a)] st A Q := c_lcl i_119_17 rfl rfl
theorem q_119_19 : XX d 119 19 [v0, v1, v2, v3, some (.ref a)] st A Q ↔ XX d 119 21 [v0, v1, v2, v3, some (.ref a)] (.ref a :: st) A Q := c_lcl i_119_19 rfl rfl
theorem q_119_21 : XX d 119 21 [v0, v1, some (.int x), v3, v4] st A Q ↔ XX d 119 22 [v0, v1, some (.int x), v3, v4] (.int x :: st) A Q := c_lcl i_119_21 rfl rfl
theorem q_119_22 : XX (d + 1) 119 22 [v0, v1, v2, v3, v4] [.int x1, .ref a0] (mk S I L R G) Q ↔ S a0 = some (.inr 9) ∧ XC d 84 [.ref a0, .int x1] (mk S I L R G) (XK (d + 1) 119 22 [v0, v1, v2, v3, v4] [] Q) := c_callV i_119_22 rfl rfl rfl rfl (Nat.le_of_ble_eq_true rfl) (Nat.le_of_ble_eq_true rfl) rfl
theorem q_119_25 : XX d 119 25 [v0, v1, v2, v3, v4] (.int x :: st) A Q ↔ if x = w 0 then XX d 119 28 [v0, v1, v2, v3, v4] st A Q else XX d 119 30 [v0, v1, v2, v3, v4] st A Q := z_ne i_119_25 rfl rfl rfl
theorem q_119_28 : XX d 119 28 [v0, v1, v2, v3, v4] st A Q ↔ XX d 119 29 [v0, v1, v2, v3, v4] (.int (w (-1)) :: st) A Q := c_stk i_119_28 rfl
theorem q_119_29 : XX d 119 29 [v0, v1, v2, v3, v4] [.int x] A Q ↔ Q (.inl (some (.int x))) A := e_retI i_119_29 rfl
theorem q_119_30 : XX d 119 30 [v0, v1, v2, some (.int x), v4] st A Q ↔ XX d 119 31 [v0, v1, v2, some (.int x), v4] (.int x :: st) A Q := c_lcl i_119_30 rfl rfl
theorem q_119_31 : XX d 119 31 [v0, v1, v2, v3, v4] (.int x :: st) A Q ↔ XX d 119 (swL [(0, 56), (1, 66)] 76 x.toInt) [v0, v1, v2, v3, v4] st A Q := c_look i_119_31 rfl rfl rfl rfl
theorem q_119_56 : XX d 119 56 [v0, v1, v2, v3, some (.ref a)] st A Q ↔ XX d 119 58 [v0, v1, v2, v3, some (.ref a)] (.ref a :: st) A Q := c_lcl i_119_56 rfl rfl
theorem q_119_58 : XX d 119 58 [v0, v1, v2, v3, v4] (.ref a :: st) (mk S I L R G) Q ↔ S a = some (.inr 9) ∧ XX d 119 61 [v0, v1, v2, v3, v4] (.ref (a + 1) :: st) (mk S I L R G) Q := r_gf i_119_58 rfl (by decide) rfl
theorem q_119_61 : XX d 119 61 [v0, v1, some (.int x), v3, v4] st A Q ↔ XX d 119 62 [v0, v1, some (.int x), v3, v4] (.int x :: st) A Q := c_lcl i_119_61 rfl rfl
theorem q_119_62 : XX (d + 1) 119 62 [v0, v1, v2, v3, v4] [.int x1, .ref a0] (mk S I L R G) Q ↔ S a0 = some (.inr 4) ∧ XC d 32 [.ref a0, .int x1] (mk S I L R G) (XK (d + 1) 119 62 [v0, v1, v2, v3, v4] [] Q) := c_callV i_119_62 rfl rfl rfl rfl (Nat.le_of_ble_eq_true rfl) (Nat.le_of_ble_eq_true rfl) rfl
theorem q_119_65 : XX d 119 65 [v0, v1, v2, v3, v4] [.int x] A Q ↔ Q (.inl (some (.int x))) A := e_retI i_119_65 rfl
theorem q_119_66 : XX d 119 66 [v0, v1, v2, v3, some (.ref a)] st A Q ↔ XX d 119 68 [v0, v1, v2, v3, some (.ref a)] (.ref a :: st) A Q := c_lcl i_119_66 rfl rfl
theorem q_119_68 : XX d 119 68 [v0, v1, v2, v3, v4] (.ref a :: st) (mk S I L R G) Q ↔ S a = some (.inr 9) ∧ XX d 119 71 [v0, v1, v2, v3, v4] (.ref (a + 1) :: st) (mk S I L R G) Q := r_gf i_119_68 rfl (by decide) rfl
theorem q_119_71 : XX d 119 71 [v0, v1, some (.int x), v3, v4] st A Q ↔ XX d 119 72 [v0, v1, some (.int x), v3, v4] (.int x :: st) A Q := c_lcl i_119_71 rfl rfl
theorem q_119_72 : XX (d + 1) 119 72 [v0, v1, v2, v3, v4] [.int x1, .ref a0] (mk S I L R G) Q ↔ S a0 = some (.inr 4) ∧ XC d 37 [.ref a0, .int x1] (mk S I L R G) (XK (d + 1) 119 72 [v0, v1, v2, v3, v4] [] Q) := c_callV i_119_72 rfl rfl rfl rfl (Nat.le_of_ble_eq_true rfl) (Nat.le_of_ble_eq_true rfl) rfl
theorem q_119_75 : XX d 119 75 [v0, v1, v2, v3, v4] [.int x] A Q ↔ Q (.inl (some (.int x))) A := e_retI i_119_75 rfl
theorem q_119_76 : XX d 119 76 [v0, v1, v2, v3, some (.ref a)] st A Q ↔ XX d 119 78 [v0, v1, v2, v3, some (.ref a)] (.ref a :: st) A Q := c_lcl i_119_76 rfl rfl
theorem q_119_78 : XX d 119 78 [v0, v1, v2, v3, v4] (.ref a :: st) (mk S I L R G) Q ↔ S a = some (.inr 9) ∧ XX d 119 81 [v0, v1, v2, v3, v4] (.ref (a + 1) :: st) (mk S I L R G) Q := r_gf i_119_78 rfl (by decide) rfl
theorem q_119_81 : XX d 119 81 [v0, v1, some (.int x), v3, v4] st A Q ↔ XX d 119 82 [v0, v1, some (.int x), v3, v4] (.int x :: st) A Q := c_lcl i_119_81 rfl rfl
theorem q_119_82 : XX (d + 1) 119 82 [v0, v1, v2, v3, v4] [.int x1, .ref a0] (mk S I L R G) Q ↔ S a0 = some (.inr 4) ∧ XC d 38 [.ref a0, .int x1] (mk S I L R G) (XK (d + 1) 119 82 [v0, v1, v2, v3, v4] [] Q) := c_callV i_119_82 rfl rfl rfl rfl (Nat.le_of_ble_eq_true rfl) (Nat.le_of_ble_eq_true rfl) rfl
theorem q_119_85 : XX d 119 85 [v0, v1, v2, v3, v4] [.int x] A Q ↔ Q (.inl (some (.int x))) A := e_retI i_119_85 rfl
theorem q_119_e : XC d 119 [.ref a0, .int x1, .int x2, .int x3] A Q ↔ XX d 119 0 [some (.ref a0), some (.int x1), some (.int x2), some (.int x3), none] [] A Q := Iff.rfl
theorem i_120_0 : t_ins 120 0 = some (.aload_n 0) := by decide +kernel
theorem i_120_1 : t_ins 120 1 = some (.iload_n 1) := by decide +kernel
theorem i_120_2 : t_ins 120 2 = some (.invokevirtual 206) := by decide +kernel
theorem i_120_5 : t_ins 120 5 = some (.aload_n 0) := by decide +kernel
theorem i_120_6 : t_ins 120 6 = some (.iload_n 1) := by decide +kernel
theorem i_120_7 : t_ins 120 7 = some (.invokevirtual 154) := by decide +kernel
theorem i_120_10 : t_ins 120 10 = some (.astore 4) := by decide +kernel
theorem i_120_12 : t_ins 120 12 = some (.aload 4) := by decide +kernel
theorem i_120_14 : t_ins 120 14 = some (.iload_n 2) := by decide +kernel
theorem i_120_15 : t_ins 120 15 = some (.invokevirtual 213) := by decide +kernel
theorem i_120_18 : t_ins 120 18 = some (.ifCond .eq 16) := by decide +kernel
theorem i_120_21 : t_ins 120 21 = some (.aload 4) := by decide +kernel
theorem i_120_23 : t_ins 120 23 = some (.getfield 217) := by decide +kernel
theorem i_120_26 : t_ins 120 26 = some (.iload_n 2) := by decide +kernel
theorem i_120_27 : t_ins 120 27 = some (.iload_n 3) := by decide +kernel
theorem i_120_28 : t_ins 120 28 = some (.invokevirtual 232) := by decide +kernel
theorem i_120_31 : t_ins 120 31 = some (.goto 4) := by decide +kernel
theorem i_120_34 : t_ins 120 34 = some (.iconst (-1)) := by decide +kernel
theorem i_120_35 : t_ins 120 35 = some (.ireturn) := by decide +kernel
theorem q_120_0 : XX d 120 0 [some (.ref a), v1, v2, v3, v4] st A Q ↔ XX d 120 1 [some (.ref a), v1, v2, v3, v4] (.ref a :: st) A Q := c_lcl i_120_0 rfl rfl
theorem q_120_1 : XX d 120 1 [v0, some (.int x), v2, v3, v4] st A Q ↔ XX d 120 2 [v0, some (.int x), v2, v3, v4] (.int x :: st) A Q := c_lcl i_120_1 rfl rfl
theorem q_120_2 : XX (d + 1) 120 2 [v0, v1, v2, v3, v4] [.int x1, .ref a0] (mk S I L R G) Q ↔ S a0 = some (.inr 11) ∧ XC d 143 [.ref a0, .int x1] (mk S I L R G) (XK (d + 1) 120 2 [v0, v1, v2, v3, v4] [] Q) := c_callV i_120_2 rfl rfl rfl rfl (Nat.le_of_ble_eq_true rfl) (Nat.le_of_ble_eq_true rfl) rfl
theorem q_120_5 : XX d 120 5 [some (.ref a), v1, v2, v3, v4] st A Q ↔ XX d 120 6 [some (.ref a), v1, v2, v3, v4] (.ref a :: st) A Q := c_lcl i_120_5 rfl rfl
theorem q_120_6 : XX d 120 6 [v0, some (.int x), v2, v3, v4] st A Q ↔ XX d 120 7 [v0, some (.int x), v2, v3, v4] (.int x :: st) A Q := c_lcl i_120_6 rfl rfl
theorem q_120_7 : XX (d + 1) 120 7 [v0, v1, v2, v3, v4] [.int x1, .ref a0] (mk S I L R G) Q ↔ S a0 = some (.inr 11) ∧ XC d 142 [.ref a0, .int x1] (mk S I L R G) (XK (d + 1) 120 7 [v0, v1, v2, v3, v4] [] Q) := c_callV i_120_7 rfl rfl rfl rfl (Nat.le_of_ble_eq_true rfl) (Nat.le_of_ble_eq_true rfl) rfl
theorem q_120_10 : XX d 120 10 [v0, v1, v2, some (.int z), v4] (.ref a :: st) A Q ↔ XX d 120 12 [v0, v1, v2, some (.int z), some (.ref a)] st A Q := c_lcl i_120_10 rfl rfl
theorem q_120_12 : XX d 120 12 [v0, v1, v2, v3, some (.ref a)] st A Q ↔ XX d 120 14 [v0, v1, v2, v3, some (.ref a)] (.ref a :: st) A Q := c_lcl i_120_12 rfl rfl
theorem q_120_14 : XX d 120 14 [v0, v1, some (.int x), v3, v4] st A Q ↔ XX d 120 15 [v0, v1, some (.int x), v3, v4] (.int x :: st) A Q := c_lcl i_120_14 rfl rfl
theorem q_120_15 : XX (d + 1) 120 15 [v0, v1, v2, v3, v4] [.int x1, .ref a0] (mk S I L R G) Q ↔ S a0 = some (.inr 9) ∧ XC d 84 [.ref a0, .int x1] (mk S I L R G) (XK (d + 1) 120 15 [v0, v1, v2, v3, v4] [] Q) := c_callV i_120_15 rfl rfl rfl rfl (Nat.le_of_ble_eq_true rfl) (Nat.le_of_ble_eq_true rfl) rfl
theorem q_120_18 : XX d 120 18 [v0, v1, v2, v3, v4] (.int x :: st) A Q ↔ if x = w 0 then XX d 120 34 [v0, v1, v2, v3, v4] st A Q else XX d 120 21 [v0, v1, v2, v3, v4] st A Q := z_eq i_120_18 rfl rfl rfl
theorem q_120_21 : XX d 120 21 [v0, v1, v2, v3, some (.ref a)] st A Q ↔ XX d 120 23 [v0, v1, v2, v3, some (.ref a)] (.ref a :: st) A Q := c_lcl i_120_21 rfl rfl
theorem q_120_23 : XX d 120 23 [v0, v1, v2, v3, v4] (.ref a :: st) (mk S I L R G) Q ↔ S a = some (.inr 9) ∧ XX d 120 26 [v0, v1, v2, v3, v4] (.ref (a + 1) :: st) (mk S I L R G) Q := r_gf i_120_23 rfl (by decide) rfl
theorem q_120_26 : XX d 120 26 [v0, v1, some (.int x), v3, v4] st A Q ↔ XX d 120 27 [v0, v1, some (.int x), v3, v4] (.int x :: st) A Q := c_lcl i_120_26 rfl rfl
theorem q_120_27 : XX d 120 27 [v0, v1, v2, some (.int x), v4] st A Q ↔ XX d 120 28 [v0, v1, v2, some (.int x), v4] (.int x :: st) A Q := c_lcl i_120_27 rfl rfl
theorem q_120_28 : XX (d + 1) 120 28 [v0, v1, v2, v3, v4] [.int x2, .int x1, .ref a0] (mk S I L R G) Q ↔ S a0 = some (.inr 4) ∧ XC d 36 [.ref a0, .int x1, .int x2] (mk S I L R G) (XK (d + 1) 120 28 [v0, v1, v2, v3, v4] [] Q) := c_callV i_120_28 rfl rfl rfl rfl (Nat.le_of_ble_eq_true rfl) (Nat.le_of_ble_eq_true rfl) rfl
theorem q_120_31 : XX d 120 31 [v0, v1, v2, v3, v4] st A Q ↔ XX d 120 35 [v0, v1, v2, v3, v4] st A Q := c_go i_120_31 rfl rfl
theorem q_120_34 : XX d 120 34 [v0, v1, v2, v3, v4] st A Q ↔ XX d 120 35 [v0, v1, v2, v3, v4] (.int (w (-1)) :: st) A Q := c_stk i_120_34 rfl
theorem q_120_35 : XX d 120 35 [v0, v1, v2, v3, v4] [.int x] A Q ↔ Q (.inl (some (.int x))) A := e_retI i_120_35 rfl
theorem q_120_e : XC d 120 [.ref a0, .int x1, .int x2, .int x3] A Q ↔ XX d 120 0 [some (.ref a0), some (.int x1), some (.int x2), some (.int x3), none] [] A Q := Iff.rfl
theorem i_121_0 : t_ins 121 0 = some (.aload_n 0) := by decide +kernel
theorem i_121_1 : t_ins 121 1 = some (.iload_n 1) := by decide +kernel
theorem i_121_2 : t_ins 121 2 = some (.invokevirtual 206) := by decide +kernel
theorem i_121_5 : t_ins 121 5 = some (.aload_n 0) := by decide +kernel
theorem i_121_6 : t_ins 121 6 = some (.iload_n 1) := by decide +kernel
theorem i_121_7 : t_ins 121 7 = some (.invokevirtual 154) := by decide +kernel
theorem i_121_10 : t_ins 121 10 = some (.astore_n 3) := by decide +kernel
theorem i_121_11 : t_ins 121 11 = some (.aload_n 3) := by decide +kernel
theorem i_121_12 : t_ins 121 12 = some (.iload_n 2) := by decide +kernel
theorem i_121_13 : t_ins 121 13 = some (.invokevirtual 213) := by decide +kernel
theorem i_121_16 : t_ins 121 16 = some (.ifCond .eq 14) := by decide +kernel
theorem i_121_19 : t_ins 121 19 = some (.aload_n 3) := by decide +kernel
theorem i_121_20 : t_ins 121 20 = some (.getfield 217) := by decide +kernel
theorem i_121_23 : t_ins 121 23 = some (.iload_n 2) := by decide +kernel
theorem i_121_24 : t_ins 121 24 = some (.invokevirtual 235) := by decide +kernel
theorem i_121_27 : t_ins 121 27 = some (.goto 4) := by decide +kernel
theorem i_121_30 : t_ins 121 30 = some (.iconst (-1)) := by decide +kernel
theorem i_121_31 : t_ins 121 31 = some (.ireturn) := by decide +kernel
theorem q_121_0 : XX d 121 0 [some (.ref a), v1, v2, v3] st A Q ↔ XX d 121 1 [some (.ref a), v1, v2, v3] (.ref a :: st) A Q := c_lcl i_121_0 rfl rfl
theorem q_121_1 : XX d 121 1 [v0, some (.int x), v2, v3] st A Q ↔ XX d 121 2 [v0, some (.int x), v2, v3] (.int x :: st) A Q := c_lcl i_121_1 rfl rfl
theorem q_121_2 : XX (d + 1) 121 2 [v0, v1, v2, v3] [.int x1, .ref a0] (mk S I L R G) Q ↔ S a0 = some (.inr 11) ∧ XC d 143 [.ref a0, .int x1] (mk S I L R G) (XK (d + 1) 121 2 [v0, v1, v2, v3] [] Q) := c_callV i_121_2 rfl rfl rfl rfl (Nat.le_of_ble_eq_true rfl) (Nat.le_of_ble_eq_true rfl) rfl
theorem q_121_5 : XX d 121 5 [some (.ref a), v1, v2, v3] st A Q ↔ XX d 121 6 [some (.ref a), v1, v2, v3] (.ref a :: st) A Q := c_lcl i_121_5 rfl rfl
theorem q_121_6 : XX d 121 6 [v0, some (.int x), v2, v3] st A Q ↔ XX d 121 7 [v0, some (.int x), v2, v3] (.int x :: st) A Q := c_lcl i_121_6 rfl rfl
theorem q_121_7 : XX (d + 1) 121 7 [v0, v1, v2, v3] [.int x1, .ref a0] (mk S I L R G) Q ↔ S a0 = some (.inr 11) ∧ XC d 142 [.ref a0, .int x1] (mk S I L R G) (XK (d + 1) 121 7 [v0, v1, v2, v3] [] Q) := c_callV i_121_7 rfl rfl rfl rfl (Nat.le_of_ble_eq_true rfl) (Nat.le_of_ble_eq_true rfl) rfl
theorem q_121_10 : XX d 121 10 [v0, v1, some (.int z), v3] (.ref a :: st) A Q ↔ XX d 121 11 [v0, v1, some (.int z), some (.ref a)] st A Q := c_lcl i_121_10 rfl rfl
theorem q_121_11 : XX d 121 11 [v0, v1, v2, some (.ref a)] st A Q ↔ XX d 121 12 [v0, v1, v2, some (.ref a)] (.ref a :: st) A Q := c_lcl i_121_11 rfl rfl
theorem q_121_12 : XX d 121 12 [v0, v1, some (.int x), v3] st A Q ↔ XX d 121 13 [v0, v1, some (.int x), v3] (.int x :: st) A Q := c_lcl i_121_12 rfl rfl
theorem q_121_13 : XX (d + 1) 121 13 [v0, v1, v2, v3] [.int x1, .ref a0] (mk S I L R G) Q ↔ S a0 = some (.inr 9) ∧ XC d 84 [.ref a0, .int x1] (mk S I L R G) (XK (d + 1) 121 13 [v0, v1, v2, v3] [] Q) := c_callV i_121_13 rfl rfl rfl rfl (Nat.le_of_ble_eq_true rfl) (Nat.le_of_ble_eq_true rfl) rfl
theorem q_121_16 : XX d 121 16 [v0, v1, v2, v3] (.int x :: st) A Q ↔ if x = w 0 then XX d 121 30 [v0, v1, v2, v3] st A Q else XX d 121 19 [v0, v1, v2, v3] st A Q := z_eq i_121_16 rfl rfl rfl
theorem q_121_19 : XX d 121 19 [v0, v1, v2, some (.ref a)] st A Q ↔ XX d 121 20 [v0, v1, v2, some (.ref a)] (.ref a :: st) A Q := c_lcl i_121_19 rfl rfl
theorem q_121_20 : XX d 121 20 [v0, v1, v2, v3] (.ref a :: st) (mk S I L R G) Q ↔ S a = some (.inr 9) ∧ XX d 121 23 [v0, v1, v2, v3] (.ref (a + 1) :: st) (mk S I L R G) Q := r_gf i_121_20 rfl (by decide) rfl
theorem q_121_23 : XX d 121 23 [v0, v1, some (.int x), v3] st A Q ↔ XX d 121 24 [v0, v1, some (.int x), v3] (.int x :: st) A Q := c_lcl i_121_23 rfl rfl
theorem q_121_24 : XX (d + 1) 121 24 [v0, v1, v2, v3] [.int x1, .ref a0] (mk S I L R G) Q ↔ S a0 = some (.inr 4) ∧ XC d 33 [.ref a0, .int x1] (mk S I L R G) (XK (d + 1) 121 24 [v0, v1, v2, v3] [] Q) := c_callV i_121_24 rfl rfl rfl rfl (Nat.le_of_ble_eq_true rfl) (Nat.le_of_ble_eq_true rfl) rfl
theorem q_121_27 : XX d 121 27 [v0, v1, v2, v3] st A Q ↔ XX d 121 31 [v0, v1, v2, v3] st A Q := c_go i_121_27 rfl rfl
theorem q_121_30 : XX d 121 30 [v0, v1, v2, v3] st A Q ↔ XX d 121 31 [v0, v1, v2, v3] (.int (w (-1)) :: st) A Q := c_stk i_121_30 rfl
theorem q_121_31 : XX d 121 31 [v0, v1, v2, v3] [.int x] A Q ↔ Q (.inl (some (.int x))) A := e_retI i_121_31 rfl
theorem q_121_e : XC d 121 [.ref a0, .int x1, .int x2] A Q ↔ XX d 121 0 [some (.ref a0), some (.int x1), some (.int x2), none] [] A Q := Iff.rfl
theorem i_122_0 : t_ins 122 0 = some (.aload_n 0) := by decide +kernel
theorem i_122_1 : t_ins 122 1 = some (.iload_n 1) := by decide +kernel
theorem i_122_2 : t_ins 122 2 = some (.invokevirtual 206) := by decide +kernel
theorem i_122_5 : t_ins 122 5 = some (.aload_n 0) := by decide +kernel
theorem i_122_6 : t_ins 122 6 = some (.iload_n 1) := by decide +kernel
theorem i_122_7 : t_ins 122 7 = some (.invokevirtual 154) := by decide +kernel
theorem i_122_10 : t_ins 122 10 = some (.iload_n 2) := by decide +kernel
theorem i_122_11 : t_ins 122 11 = some (.invokevirtual 238) := by decide +kernel
theorem i_122_14 : t_ins 122 14 = some (.ireturn) := by decide +kernel
theorem q_122_0 : XX d 122 0 [some (.ref a), v1, v2] st A Q ↔ XX d 122 1 [some (.ref a), v1, v2] (.ref a :: st) A Q := c_lcl i_122_0 rfl rfl
theorem q_122_1 : XX d 122 1 [v0, some (.int x), v2] st A Q ↔ XX d 122 2 [v0, some (.int x), v2] (.int x :: st) A Q := c_lcl i_122_1 rfl rfl
theorem q_122_2 : XX (d + 1) 122 2 [v0, v1, v2] [.int x1, .ref a0] (mk S I L R G) Q ↔ S a0 = some (.inr 11) ∧ XC d 143 [.ref a0, .int x1] (mk S I L R G) (XK (d + 1) 122 2 [v0, v1, v2] [] Q) := c_callV i_122_2 rfl rfl rfl rfl (Nat.le_of_ble_eq_true rfl) (Nat.le_of_ble_eq_true rfl) rfl
theorem q_122_5 : XX d 122 5 [some (.ref a), v1, v2] st A Q ↔ XX d 122 6 [some (.ref a), v1, v2] (.ref a :: st) A Q := c_lcl i_122_5 rfl rfl
theorem q_122_6 : XX d 122 6 [v0, some (.int x), v2] st A Q ↔ XX d 122 7 [v0, some (.int x), v2] (.int x :: st) A Q := c_lcl i_122_6 rfl rfl
theorem q_122_7 : XX (d + 1) 122 7 [v0, v1, v2] [.int x1, .ref a0] (mk S I L R G) Q ↔ S a0 = some (.inr 11) ∧ XC d 142 [.ref a0, .int x1] (mk S I L R G) (XK (d + 1) 122 7 [v0, v1, v2] [] Q) := c_callV i_122_7 rfl rfl rfl rfl (Nat.le_of_ble_eq_true rfl) (Nat.le_of_ble_eq_true rfl) rfl
theorem q_122_10 : XX d 122 10 [v0, v1, some (.int x)] st A Q ↔ XX d 122 11 [v0, v1, some (.int x)] (.int x :: st) A Q := c_lcl i_122_10 rfl rfl
theorem q_122_11 : XX (d + 1) 122 11 [v0, v1, v2] [.int x1, .ref a0] (mk S I L R G) Q ↔ S a0 = some (.inr 9) ∧ XC d 87 [.ref a0, .int x1] (mk S I L R G) (XK (d + 1) 122 11 [v0, v1, v2] [] Q) := c_callV i_122_11 rfl rfl rfl rfl (Nat.le_of_ble_eq_true rfl) (Nat.le_of_ble_eq_true rfl) rfl
theorem q_122_14 : XX d 122 14 [v0, v1, v2] [.int x] A Q ↔ Q (.inl (some (.int x))) A := e_retI i_122_14 rfl
theorem q_122_e : XC d 122 [.ref a0, .int x1, .int x2] A Q ↔ XX d 122 0 [some (.ref a0), some (.int x1), some (.int x2)] [] A Q := Iff.rfl
theorem i_123_0 : t_ins 123 0 = some (.aload_n 0) := by decide +kernel
theorem i_123_1 : t_ins 123 1 = some (.iload_n 1) := by decide +kernel
theorem i_123_2 : t_ins 123 2 = some (.invokevirtual 206) := by decide +kernel
theorem i_123_5 : t_ins 123 5 = some (.aload_n 0) := by decide +kernel
theorem i_123_6 : t_ins 123 6 = some (.iload_n 1) := by decide +kernel
theorem i_123_7 : t_ins 123 7 = some (.invokevirtual 154) := by decide +kernel
theorem i_123_10 : t_ins 123 10 = some (.astore 5) := by decide +kernel
theorem i_123_12 : t_ins 123 12 = some (.aload_n 0) := by decide +kernel
theorem i_123_13 : t_ins 123 13 = some (.iload_n 3) := by decide +kernel
theorem i_123_14 : t_ins 123 14 = some (.aload 5) := by decide +kernel
theorem i_123_16 : t_ins 123 16 = some (.iload_n 2) := by decide +kernel
theorem i_123_17 : t_ins 123 17 = some (.invokevirtual 238) := by decide +kernel
theorem i_123_20 : t_ins 123 20 = some (.invokevirtual 197) := by decide +kernel
theorem i_123_23 : t_ins 123 23 = some (.aload_n 0) := by decide +kernel
theorem i_123_24 : t_ins 123 24 = some (.iload 4) := by decide +kernel
theorem i_123_26 : t_ins 123 26 = some (.iconst 0) := by decide +kernel
theorem i_123_27 : t_ins 123 27 = some (.iconst 3) := by decide +kernel
theorem i_123_28 : t_ins 123 28 = some (.invokevirtual 89) := by decide +kernel
theorem i_123_31 : t_ins 123 31 = some (.aload 5) := by decide +kernel
theorem i_123_33 : t_ins 123 33 = some (.getfield 241) := by decide +kernel
theorem i_123_36 : t_ins 123 36 = some (.iload_n 3) := by decide +kernel
theorem i_123_37 : t_ins 123 37 = some (.iload 4) := by decide +kernel
theorem i_123_39 : t_ins 123 39 = some (.invokevirtual 245) := by decide +kernel
theorem i_123_42 : t_ins 123 42 = some (.ireturn) := by decide +kernel
theorem q_123_0 : XX d 123 0 [some (.ref a), v1, v2, v3, v4, v5] st A Q ↔ XX d 123 1 [some (.ref a), v1, v2, v3, v4, v5] (.ref a :: st) A Q := c_lcl i_123_0 rfl rfl
theorem q_123_1 : XX d 123 1 [v0, some (.int x), v2, v3, v4, v5] st A Q ↔ XX d 123 2 [v0, some (.int x), v2, v3, v4, v5] (.int x :: st) A Q := c_lcl i_123_1 rfl rfl
theorem q_123_2 : XX (d + 1) 123 2 [v0, v1, v2, v3, v4, v5] [.int x1, .ref a0] (mk S I L R G) Q ↔ S a0 = some (.inr 11) ∧ XC d 143 [.ref a0, .int x1] (mk S I L R G) (XK (d + 1) 123 2 [v0, v1, v2, v3, v4, v5] [] Q) := c_callV i_123_2 rfl rfl rfl rfl (Nat.le_of_ble_eq_true rfl) (Nat.le_of_ble_eq_true rfl) rfl
theorem q_123_5 : XX d 123 5 [some (.ref a), v1, v2, v3, v4, v5] st A Q ↔ XX d 123 6 [some (.ref a), v1, v2, v3, v4, v5] (.ref a :: st) A Q := c_lcl i_123_5 rfl rfl
theorem q_123_6 : XX d 123 6 [v0, some (.int x), v2, v3, v4, v5] st A Q ↔ XX d 123 7 [v0, some (.int x), v2, v3, v4, v5] (.int x :: st) A Q := c_lcl i_123_6 rfl rfl
theorem q_123_7 : XX (d + 1) 123 7 [v0, v1, v2, v3, v4, v5] [.int x1, .ref a0] (mk S I L R G) Q ↔ S a0 = some (.inr 11) ∧ XC d 142 [.ref a0, .int x1] (mk S I L R G) (XK (d + 1) 123 7 [v0, v1, v2, v3, v4, v5] [] Q) := c_callV i_123_7 rfl rfl rfl rfl (Nat.le_of_ble_eq_true rfl) (Nat.le_of_ble_eq_true rfl) rfl
theorem q_123_10 : XX d 123 10 [v0, v1, v2, v3, some (.int z), v5] (.ref a :: st) A Q ↔ XX d 123 12 [v0, v1, v2, v3, some (.int z), some (.ref a)] st A Q := c_lcl i_123_10 rfl rfl
theorem q_123_12 : XX d 123 12 [some (.ref a), v1, v2, v3, v4, v5] st A Q ↔ XX d 123 13 [some (.ref a), v1, v2, v3, v4, v5] (.ref a :: st) A Q := c_lcl i_123_12 rfl rfl
theorem q_123_13 : XX d 123 13 [v0, v1, v2, some (.int x), v4, v5] st A Q ↔ XX d 123 14 [v0, v1, v2, some (.int x), v4, v5] (.int x :: st) A Q := c_lcl i_123_13 rfl rfl
theorem q_123_14 : XX d 123 14 [v0, v1, v2, v3, v4, some (.ref a)] st A Q ↔ XX d 123 16 [v0, v1, v2, v3, v4, some (.ref a)] (.ref a :: st) A Q := c_lcl i_123_14 rfl rfl
theorem q_123_16 : XX d 123 16 [v0, v1, some (.int x), v3, v4, v5] st A Q ↔ XX d 123 17 [v0, v1, some (.int x), v3, v4, v5] (.int x :: st) A Q := c_lcl i_123_16 rfl rfl
theorem q_123_17 : XX (d + 1) 123 17 [v0, v1, v2, v3, v4, v5] [.int x1, .ref a0, .int x2, .ref a3] (mk S I L R G) Q ↔ S a0 = some (.inr 9) ∧ XC d 87 [.ref a0, .int x1] (mk S I L R G) (XK (d + 1) 123 17 [v0, v1, v2, v3, v4, v5] [.int x2, .ref a3] Q) := c_callV i_123_17 rfl rfl rfl rfl (Nat.le_of_ble_eq_true rfl) (Nat.le_of_ble_eq_true rfl) rfl
theorem q_123_20 : XX (d + 1) 123 20 [v0, v1, v2, v3, v4, v5] [.int x2, .int x1, .ref a0] (mk S I L R G) Q ↔ S a0 = some (.inr 11) ∧ XC d 145 [.ref a0, .int x1, .int x2] (mk S I L R G) (XK (d + 1) 123 20 [v0, v1, v2, v3, v4, v5] [] Q) := c_callV i_123_20 rfl rfl rfl rfl (Nat.le_of_ble_eq_true rfl) (Nat.le_of_ble_eq_true rfl) rfl
theorem q_123_23 : XX d 123 23 [some (.ref a), v1, v2, v3, v4, v5] st A Q ↔ XX d 123 24 [some (.ref a), v1, v2, v3, v4, v5] (.ref a :: st) A Q := c_lcl i_123_23 rfl rfl
theorem q_123_24 : XX d 123 24 [v0, v1, v2, v3, some (.int x), v5] st A Q ↔ XX d 123 26 [v0, v1, v2, v3, some (.int x), v5] (.int x :: st) A Q := c_lcl i_123_24 rfl rfl
theorem q_123_26 : XX d 123 26 [v0, v1, v2, v3, v4, v5] st A Q ↔ XX d 123 27 [v0, v1, v2, v3, v4, v5] (.int (w 0) :: st) A Q := c_stk i_123_26 rfl
theorem q_123_27 : XX d 123 27 [v0, v1, v2, v3, v4, v5] st A Q ↔ XX d 123 28 [v0, v1, v2, v3, v4, v5] (.int (w 3) :: st) A Q := c_stk i_123_27 rfl
theorem q_123_28 : XX (d + 1) 123 28 [v0, v1, v2, v3, v4, v5] [.int x3, .int x2, .int x1, .ref a0] (mk S I L R G) Q ↔ S a0 = some (.inr 11) ∧ XC d 146 [.ref a0, .int x1, .int x2, .int x3] (mk S I L R G) (XK (d + 1) 123 28 [v0, v1, v2, v3, v4, v5] [] Q) := c_callV i_123_28 rfl rfl rfl rfl (Nat.le_of_ble_eq_true rfl) (Nat.le_of_ble_eq_true rfl) rfl
theorem q_123_31 : XX d 123 31 [v0, v1, v2, v3, v4, some (.ref a)] st A Q ↔ XX d 123 33 [v0, v1, v2, v3, v4, some (.ref a)] (.ref a :: st) A Q := c_lcl i_123_31 rfl rfl
theorem q_123_33 : XX d 123 33 [v0, v1, v2, v3, v4, v5] (.ref a :: st) (mk S I L R G) Q ↔ S a = some (.inr 9) ∧ XX d 123 36 [v0, v1, v2, v3, v4, v5] (.ref (a + 7) :: st) (mk S I L R G) Q := r_gf i_123_33 rfl (by decide) rfl
theorem q_123_36 : XX d 123 36 [v0, v1, v2, some (.int x), v4, v5] st A Q ↔ XX d 123 37 [v0, v1, v2, some (.int x), v4, v5] (.int x :: st) A Q := c_lcl i_123_36 rfl rfl
theorem q_123_37 : XX d 123 37 [v0, v1, v2, v3, some (.int x), v5] st A Q ↔ XX d 123 39 [v0, v1, v2, v3, some (.int x), v5] (.int x :: st) A Q := c_lcl i_123_37 rfl rfl
theorem q_123_39 : XX (d + 1) 123 39 [v0, v1, v2, v3, v4, v5] [.int x2, .int x1, .ref a0] (mk S I L R G) Q ↔ S a0 = some (.inr 1) ∧ XC d 10 [.ref a0, .int x1, .int x2] (mk S I L R G) (XK (d + 1) 123 39 [v0, v1, v2, v3, v4, v5] [] Q) := c_callV i_123_39 rfl rfl rfl rfl (Nat.le_of_ble_eq_true rfl) (Nat.le_of_ble_eq_true rfl) rfl
theorem q_123_42 : XX d 123 42 [v0, v1, v2, v3, v4, v5] [.int x] A Q ↔ Q (.inl (some (.int x))) A := e_retI i_123_42 rfl
theorem q_123_e : XC d 123 [.ref a0, .int x1, .int x2, .int x3, .int x4] A Q ↔ XX d 123 0 [some (.ref a0), some (.int x1), some (.int x2), some (.int x3), some (.int x4), none] [] A Q := Iff.rfl
theorem i_124_0 : t_ins 124 0 = some (.aload_n 0) := by decide +kernel
theorem i_124_1 : t_ins 124 1 = some (.iload_n 1) := by decide +kernel
theorem i_124_2 : t_ins 124 2 = some (.invokevirtual 206) := by decide +kernel
theorem i_124_5 : t_ins 124 5 = some (.aload_n 0) := by decide +kernel
theorem i_124_6 : t_ins 124 6 = some (.iload_n 2) := by decide +kernel
theorem i_124_7 : t_ins 124 7 = some (.iconst 0) := by decide +kernel
theorem i_124_8 : t_ins 124 8 = some (.iconst 4) := by decide +kernel
theorem i_124_9 : t_ins 124 9 = some (.invokevirtual 89) := by decide +kernel
theorem i_124_12 : t_ins 124 12 = some (.aload_n 0) := by decide +kernel
theorem i_124_13 : t_ins 124 13 = some (.iload_n 1) := by decide +kernel
theorem i_124_14 : t_ins 124 14 = some (.invokevirtual 154) := by decide +kernel
theorem i_124_17 : t_ins 124 17 = some (.astore_n 3) := by decide +kernel
theorem i_124_18 : t_ins 124 18 = some (.iconst 0) := by decide +kernel
theorem i_124_19 : t_ins 124 19 = some (.istore 4) := by decide +kernel
theorem i_124_21 : t_ins 124 21 = some (.iconst (-1)) := by decide +kernel
theorem i_124_22 : t_ins 124 22 = some (.istore 5) := by decide +kernel
theorem i_124_24 : t_ins 124 24 = some (.iconst 0) := by decide +kernel
theorem i_124_25 : t_ins 124 25 = some (.istore 6) := by decide +kernel
theorem i_124_27 : t_ins 124 27 = some (.iconst 0) := by decide +kernel
theorem i_124_28 : t_ins 124 28 = some (.istore 7) := by decide +kernel
theorem i_124_30 : t_ins 124 30 = some (.iconst (-1)) := by decide +kernel
theorem i_124_31 : t_ins 124 31 = some (.istore 8) := by decide +kernel
theorem i_124_33 : t_ins 124 33 = some (.iconst 0) := by decide +kernel
theorem i_124_34 : t_ins 124 34 = some (.istore 9) := by decide +kernel
theorem i_124_36 : t_ins 124 36 = some (.iconst 0) := by decide +kernel
theorem i_124_37 : t_ins 124 37 = some (.istore 10) := by decide +kernel
theorem i_124_39 : t_ins 124 39 = some (.iload 10) := by decide +kernel
theorem i_124_41 : t_ins 124 41 = some (.aload_n 0) := by decide +kernel
theorem i_124_42 : t_ins 124 42 = some (.getfield 19) := by decide +kernel
theorem i_124_45 : t_ins 124 45 = some (.getfield 137) := by decide +kernel
theorem i_124_48 : t_ins 124 48 = some (.if_icmp .gt 69) := by decide +kernel
theorem i_124_51 : t_ins 124 51 = some (.aload_n 3) := by decide +kernel
theorem i_124_52 : t_ins 124 52 = some (.iload 10) := by decide +kernel
theorem i_124_54 : t_ins 124 54 = some (.invokevirtual 213) := by decide +kernel
theorem i_124_57 : t_ins 124 57 = some (.ifCond .eq 9) := by decide +kernel
theorem i_124_60 : t_ins 124 60 = some (.iconst 0) := by decide +kernel
theorem i_124_61 : t_ins 124 61 = some (.istore 9) := by decide +kernel
theorem i_124_63 : t_ins 124 63 = some (.goto 48) := by decide +kernel
theorem i_124_66 : t_ins 124 66 = some (.iinc 4 1) := by decide +kernel
theorem i_124_69 : t_ins 124 69 = some (.iinc 9 1) := by decide +kernel
theorem i_124_72 : t_ins 124 72 = some (.iload 5) := by decide +kernel
theorem i_124_74 : t_ins 124 74 = some (.iconst (-1)) := by decide +kernel
theorem i_124_75 : t_ins 124 75 = some (.if_icmp .ne 7) := by decide +kernel
theorem i_124_78 : t_ins 124 78 = some (.iload 10) := by decide +kernel
theorem i_124_80 : t_ins 124 80 = some (.istore 5) := by decide +kernel
theorem i_124_82 : t_ins 124 82 = some (.iload 9) := by decide +kernel
theorem i_124_84 : t_ins 124 84 = some (.iconst 1) := by decide +kernel
theorem i_124_85 : t_ins 124 85 = some (.if_icmp .ne 6) := by decide +kernel
theorem i_124_88 : t_ins 124 88 = some (.iinc 6 1) := by decide +kernel
theorem i_124_91 : t_ins 124 91 = some (.iload 9) := by decide +kernel
theorem i_124_93 : t_ins 124 93 = some (.iload 7) := by decide +kernel
theorem i_124_95 : t_ins 124 95 = some (.if_icmp .le 16) := by decide +kernel
theorem i_124_98 : t_ins 124 98 = some (.iload 9) := by decide +kernel
theorem i_124_100 : t_ins 124 100 = some (.istore 7) := by decide +kernel
theorem i_124_102 : t_ins 124 102 = some (.iload 10) := by decide +kernel
theorem i_124_104 : t_ins 124 104 = some (.iload 9) := by decide +kernel
theorem i_124_106 : t_ins 124 106 = some (.isub) := by decide +kernel
theorem i_124_107 : t_ins 124 107 = some (.iconst 1) := by decide +kernel
theorem i_124_108 : t_ins 124 108 = some (.iadd) := by decide +kernel
theorem i_124_109 : t_ins 124 109 = some (.istore 8) := by decide +kernel
theorem i_124_111 : t_ins 124 111 = some (.iinc 10 1) := by decide +kernel
theorem i_124_114 : t_ins 124 114 = some (.goto (-75)) := by decide +kernel
theorem i_124_117 : t_ins 124 117 = some (.iload_n 2) := by decide +kernel
theorem i_124_118 : t_ins 124 118 = some (.tableswitch 42 0 3 #[30, 33, 36, 39]) := by decide +kernel
theorem i_124_148 : t_ins 124 148 = some (.iload 4) := by decide +kernel
theorem i_124_150 : t_ins 124 150 = some (.ireturn) := by decide +kernel
theorem i_124_151 : t_ins 124 151 = some (.iload 5) := by decide +kernel
theorem i_124_153 : t_ins 124 153 = some (.ireturn) := by decide +kernel
theorem i_124_154 : t_ins 124 154 = some (.iload 6) := by decide +kernel
theorem i_124_156 : t_ins 124 156 = some (.ireturn) := by decide +kernel
theorem i_124_157 : t_ins 124 157 = some (.iload 7) := by decide +kernel
theorem i_124_159 : t_ins 124 159 = some (.ireturn) := by decide +kernel
theorem i_124_160 : t_ins 124 160 = some (.iload 8) := by decide +kernel
theorem i_124_162 : t_ins 124 162 = some (.ireturn) := by decide +kernel
theorem q_124_0 : XX d 124 0 [some (.ref a), v1, v2, v3, v4, v5, v6, v7, v8, v9, v10] st A Q ↔ XX d 124 1 [some (.ref a), v1, v2, v3, v4, v5, v6, v7, v8, v9, v10] (.ref a :: st) A Q := c_lcl i_124_0 rfl rfl
theorem q_124_1 : XX d 124 1 [v0, some (.int x), v2, v3, v4, v5, v6, v7, v8, v9, v10] st A Q ↔ XX d 124 2 [v0, some (.int x), v2, v3, v4, v5, v6, v7, v8, v9, v10] (.int x :: st) A Q := c_lcl i_124_1 rfl rfl
theorem q_124_2 : XX (d + 1) 124 2 [v0, v1, v2, v3, v4, v5, v6, v7, v8, v9, v10] [.int x1, .ref a0] (mk S I L R G) Q ↔ S a0 = some (.inr 11) ∧ XC d 143 [.ref a0, .int x1] (mk S I L R G) (XK (d + 1) 124 2 [v0, v1, v2, v3, v4, v5, v6, v7, v8, v9, v10] [] Q) := c_callV i_124_2 rfl rfl rfl rfl (Nat.le_of_ble_eq_true rfl) (Nat.le_of_ble_eq_true rfl) rfl
theorem q_124_5 : XX d 124 5 [some (.ref a), v1, v2, v3, v4, v5, v6, v7, v8, v9, v10] st A Q ↔ XX d 124 6 [some (.ref a), v1, v2, v3, v4, v5, v6, v7, v8, v9, v10] (.ref a :: st) A Q := c_lcl i_124_5 rfl rfl
theorem q_124_6 : XX d 124 6 [v0, v1, some (.int x), v3, v4, v5, v6, v7, v8, v9, v10] st A Q ↔ XX d 124 7 [v0, v1, some (.int x), v3, v4, v5, v6, v7, v8, v9, v10] (.int x :: st) A Q := c_lcl i_124_6 rfl rfl
theorem q_124_7 : XX d 124 7 [v0, v1, v2, v3, v4, v5, v6, v7, v8, v9, v10] st A Q ↔ XX d 124 8 [v0, v1, v2, v3, v4, v5, v6, v7, v8, v9, v10] (.int (w 0) :: st) A Q := c_stk i_124_7 rfl
theorem q_124_8 : XX d 124 8 [v0, v1, v2, v3, v4, v5, v6, v7, v8, v9, v10] st A Q ↔ XX d 124 9 [v0, v1, v2, v3, v4, v5, v6, v7, v8, v9, v10] (.int (w 4) :: st) A Q := c_stk i_124_8 rfl
theorem q_124_9 : XX (d + 1) 124 9 [v0, v1, v2, v3, v4, v5, v6, v7, v8, v9, v10] [.int x3, .int x2, .int x1, .ref a0] (mk S I L R G) Q ↔ S a0 = some (.inr 11) ∧ XC d 146 [.ref a0, .int x1, .int x2, .int x3] (mk S I L R G) (XK (d + 1) 124 9 [v0, v1, v2, v3, v4, v5, v6, v7, v8, v9, v10] [] Q) := c_callV i_124_9 rfl rfl rfl rfl (Nat.le_of_ble_eq_true rfl) (Nat.le_of_ble_eq_true rfl) rfl
theorem q_124_12 : XX d 124 12 [some (.ref a), v1, v2, v3, v4, v5, v6, v7, v8, v9, v10] st A Q ↔ XX d 124 13 [some (.ref a), v1, v2, v3, v4, v5, v6, v7, v8, v9, v10] (.ref a :: st) A Q := c_lcl i_124_12 rfl rfl
theorem q_124_13 : XX d 124 13 [v0, some (.int x), v2, v3, v4, v5, v6, v7, v8, v9, v10] st A Q ↔ XX d 124 14 [v0, some (.int x), v2, v3, v4, v5, v6, v7, v8, v9, v10] (.int x :: st) A Q := c_lcl i_124_13 rfl rfl
theorem q_124_14 : XX (d + 1) 124 14 [v0, v1, v2, v3, v4, v5, v6, v7, v8, v9, v10] [.int x1, .ref a0] (mk S I L R G) Q ↔ S a0 = some (.inr 11) ∧ XC d 142 [.ref a0, .int x1] (mk S I L R G) (XK (d + 1) 124 14 [v0, v1, v2, v3, v4, v5, v6, v7, v8, v9, v10] [] Q) := c_callV i_124_14 rfl rfl rfl rfl (Nat.le_of_ble_eq_true rfl) (Nat.le_of_ble_eq_true rfl) rfl
theorem q_124_17 : XX d 124 17 [v0, v1, some (.int z), v3, v4, v5, v6, v7, v8, v9, v10] (.ref a :: st) A Q ↔ XX d 124 18 [v0, v1, some (.int z), some (.ref a), v4, v5, v6, v7, v8, v9, v10] st A Q := c_lcl i_124_17 rfl rfl
theorem q_124_18 : XX d 124 18 [v0, v1, v2, v3, v4, v5, v6, v7, v8, v9, v10] st A Q ↔ XX d 124 19 [v0, v1, v2, v3, v4, v5, v6, v7, v8, v9, v10] (.int (w 0) :: st) A Q := c_stk i_124_18 rfl
theorem q_124_19 : XX d 124 19 [v0, v1, v2, some (.ref b), v4, v5, v6, v7, v8, v9, v10] (.int x :: st) A Q ↔ XX d 124 21 [v0, v1, v2, some (.ref b), some (.int x), v5, v6, v7, v8, v9, v10] st A Q := c_lcl i_124_19 rfl rfl
theorem q_124_21 : XX d 124 21 [v0, v1, v2, v3, v4, v5, v6, v7, v8, v9, v10] st A Q ↔ XX d 124 22 [v0, v1, v2, v3, v4, v5, v6, v7, v8, v9, v10] (.int (w (-1)) :: st) A Q := c_stk i_124_21 rfl
theorem q_124_22 : XX d 124 22 [v0, v1, v2, v3, some (.int z), v5, v6, v7, v8, v9, v10] (.int x :: st) A Q ↔ XX d 124 24 [v0, v1, v2, v3, some (.int z), some (.int x), v6, v7, v8, v9, v10] st A Q := c_lcl i_124_22 rfl rfl
theorem q_124_24 : XX d 124 24 [v0, v1, v2, v3, v4, v5, v6, v7, v8, v9, v10] st A Q ↔ XX d 124 25 [v0, v1, v2, v3, v4, v5, v6, v7, v8, v9, v10] (.int (w 0) :: st) A Q := c_stk i_124_24 rfl
theorem q_124_25 : XX d 124 25 [v0, v1, v2, v3, v4, some (.int z), v6, v7, v8, v9, v10] (.int x :: st) A Q ↔ XX d 124 27 [v0, v1, v2, v3, v4, some (.int z), some (.int x), v7, v8, v9, v10] st A Q := c_lcl i_124_25 rfl rfl
theorem q_124_27 : XX d 124 27 [v0, v1, v2, v3, v4, v5, v6, v7, v8, v9, v10] st A Q ↔ XX d 124 28 [v0, v1, v2, v3, v4, v5, v6, v7, v8, v9, v10] (.int (w 0) :: st) A Q := c_stk i_124_27 rfl
theorem q_124_28 : XX d 124 28 [v0, v1, v2, v3, v4, v5, some (.int z), v7, v8, v9, v10] (.int x :: st) A Q ↔ XX d 124 30 [v0, v1, v2, v3, v4, v5, some (.int z), some (.int x), v8, v9, v10] st A Q := c_lcl i_124_28 rfl rfl
theorem q_124_30 : XX d 124 30 [v0, v1, v2, v3, v4, v5, v6, v7, v8, v9, v10] st A Q ↔ XX d 124 31 [v0, v1, v2, v3, v4, v5, v6, v7, v8, v9, v10] (.int (w (-1)) :: st) A Q := c_stk i_124_30 rfl
theorem q_124_31 : XX d 124 31 [v0, v1, v2, v3, v4, v5, v6, some (.int z), v8, v9, v10] (.int x :: st) A Q ↔ XX d 124 33 [v0, v1, v2, v3, v4, v5, v6, some (.int z), some (.int x), v9, v10] st A Q := c_lcl i_124_31 rfl rfl
theorem q_124_33 : XX d 124 33 [v0, v1, v2, v3, v4, v5, v6, v7, v8, v9, v10] st A Q ↔ XX d 124 34 [v0, v1, v2, v3, v4, v5, v6, v7, v8, v9, v10] (.int (w 0) :: st) A Q := c_stk i_124_33 rfl
theorem q_124_34 : XX d 124 34 [v0, v1, v2, v3, v4, v5, v6, v7, some (.int z), v9, v10] (.int x :: st) A Q ↔ XX d 124 36 [v0, v1, v2, v3, v4, v5, v6, v7, some (.int z), some (.int x), v10] st A Q := c_lcl i_124_34 rfl rfl
theorem q_124_36 : XX d 124 36 [v0, v1, v2, v3, v4, v5, v6, v7, v8, v9, v10] st A Q ↔ XX d 124 37 [v0, v1, v2, v3, v4, v5, v6, v7, v8, v9, v10] (.int (w 0) :: st) A Q := c_stk i_124_36 rfl
theorem q_124_37 : XX d 124 37 [v0, v1, v2, v3, v4, v5, v6, v7, v8, some (.int z), v10] (.int x :: st) A Q ↔ XX d 124 39 [v0, v1, v2, v3, v4, v5, v6, v7, v8, some (.int z), some (.int x)] st A Q := c_lcl i_124_37 rfl rfl
theorem q_124_39 : XX d 124 39 [v0, v1, v2, v3, v4, v5, v6, v7, v8, v9, some (.int x)] st A Q ↔ XX d 124 41 [v0, v1, v2, v3, v4, v5, v6, v7, v8, v9, some (.int x)] (.int x :: st) A Q := c_lcl i_124_39 rfl rfl
theorem q_124_41 : XX d 124 41 [some (.ref a), v1, v2, v3, v4, v5, v6, v7, v8, v9, v10] st A Q ↔ XX d 124 42 [some (.ref a), v1, v2, v3, v4, v5, v6, v7, v8, v9, v10] (.ref a :: st) A Q := c_lcl i_124_41 rfl rfl
theorem q_124_42 : XX d 124 42 [v0, v1, v2, v3, v4, v5, v6, v7, v8, v9, v10] (.ref a :: st) (mk S I L R G) Q ↔ S a = some (.inr 11) ∧ XX d 124 45 [v0, v1, v2, v3, v4, v5, v6, v7, v8, v9, v10] (.ref (a + 3) :: st) (mk S I L R G) Q := r_gf i_124_42 rfl (by decide) rfl
theorem q_124_45 : XX d 124 45 [v0, v1, v2, v3, v4, v5, v6, v7, v8, v9, v10] (.ref a :: st) (mk S I L R G) Q ↔ S a = some (.inr 0) ∧ XX d 124 48 [v0, v1, v2, v3, v4, v5, v6, v7, v8, v9, v10] (.int (I a 2) :: st) (mk S I L R G) Q := r_gf i_124_45 rfl (by decide) rfl
theorem q_124_48 : XX d 124 48 [v0, v1, v2, v3, v4, v5, v6, v7, v8, v9, v10] (.int y :: .int x :: st) A Q ↔ if y < x then XX d 124 117 [v0, v1, v2, v3, v4, v5, v6, v7, v8, v9, v10] st A Q else XX d 124 51 [v0, v1, v2, v3, v4, v5, v6, v7, v8, v9, v10] st A Q := b_gt i_124_48 rfl rfl rfl
theorem q_124_51 : XX d 124 51 [v0, v1, v2, some (.ref a), v4, v5, v6, v7, v8, v9, v10] st A Q ↔ XX d 124 52 [v0, v1, v2, some (.ref a), v4, v5, v6, v7, v8, v9, v10] (.ref a :: st) A Q := c_lcl i_124_51 rfl rfl
theorem q_124_52 : XX d 124 52 [v0, v1, v2, v3, v4, v5, v6, v7, v8, v9, some (.int x)] st A Q ↔ XX d 124 54 [v0, v1, v2, v3, v4, v5, v6, v7, v8, v9, some (.int x)] (.int x :: st) A Q := c_lcl i_124_52 rfl rfl
theorem q_124_54 : XX (d + 1) 124 54 [v0, v1, v2, v3, v4, v5, v6, v7, v8, v9, v10] [.int x1, .ref a0] (mk S I L R G) Q ↔ S a0 = some (.inr 9) ∧ XC d 84 [.ref a0, .int x1] (mk S I L R G) (XK (d + 1) 124 54 [v0, v1, v2, v3, v4, v5, v6, v7, v8, v9, v10] [] Q) := c_callV i_124_54 rfl rfl rfl rfl (Nat.le_of_ble_eq_true rfl) (Nat.le_of_ble_eq_true rfl) rfl
theorem q_124_57 : XX d 124 57 [v0, v1, v2, v3, v4, v5, v6, v7, v8, v9, v10] (.int x :: st) A Q ↔ if x = w 0 then XX d 124 66 [v0, v1, v2, v3, v4, v5, v6, v7, v8, v9, v10] st A Q else XX d 124 60 [v0, v1, v2, v3, v4, v5, v6, v7, v8, v9, v10] st A Q := z_eq i_124_57 rfl rfl rfl
theorem q_124_60 : XX d 124 60 [v0, v1, v2, v3, v4, v5, v6, v7, v8, v9, v10] st A Q ↔ XX d 124 61 [v0, v1, v2, v3, v4, v5, v6, v7, v8, v9, v10] (.int (w 0) :: st) A Q := c_stk i_124_60 rfl
theorem q_124_61 : XX d 124 61 [v0, v1, v2, v3, v4, v5, v6, v7, some (.int z), v9, v10] (.int x :: st) A Q ↔ XX d 124 63 [v0, v1, v2, v3, v4, v5, v6, v7, some (.int z), some (.int x), v10] st A Q := c_lcl i_124_61 rfl rfl
theorem q_124_63 : XX d 124 63 [v0, v1, v2, v3, v4, v5, v6, v7, v8, v9, v10] st A Q ↔ XX d 124 111 [v0, v1, v2, v3, v4, v5, v6, v7, v8, v9, v10] st A Q := c_go i_124_63 rfl rfl
theorem q_124_66 : XX d 124 66 [v0, v1, v2, some (.ref b), some (.int x), v5, v6, v7, v8, v9, v10] st A Q ↔ XX d 124 69 [v0, v1, v2, some (.ref b), some (.int (x + w 1)), v5, v6, v7, v8, v9, v10] st A Q := c_lcl i_124_66 rfl rfl
theorem q_124_69 : XX d 124 69 [v0, v1, v2, v3, v4, v5, v6, v7, some (.int z), some (.int x), v10] st A Q ↔ XX d 124 72 [v0, v1, v2, v3, v4, v5, v6, v7, some (.int z), some (.int (x + w 1)), v10] st A Q := c_lcl i_124_69 rfl rfl
theorem q_124_72 : XX d 124 72 [v0, v1, v2, v3, v4, some (.int x), v6, v7, v8, v9, v10] st A Q ↔ XX d 124 74 [v0, v1, v2, v3, v4, some (.int x), v6, v7, v8, v9, v10] (.int x :: st) A Q := c_lcl i_124_72 rfl rfl
theorem q_124_74 : XX d 124 74 [v0, v1, v2, v3, v4, v5, v6, v7, v8, v9, v10] st A Q ↔ XX d 124 75 [v0, v1, v2, v3, v4, v5, v6, v7, v8, v9, v10] (.int (w (-1)) :: st) A Q := c_stk i_124_74 rfl
theorem q_124_75 : XX d 124 75 [v0, v1, v2, v3, v4, v5, v6, v7, v8, v9, v10] (.int y :: .int x :: st) A Q ↔ if x = y then XX d 124 78 [v0, v1, v2, v3, v4, v5, v6, v7, v8, v9, v10] st A Q else XX d 124 82 [v0, v1, v2, v3, v4, v5, v6, v7, v8, v9, v10] st A Q := b_ne i_124_75 rfl rfl rfl
theorem q_124_78 : XX d 124 78 [v0, v1, v2, v3, v4, v5, v6, v7, v8, v9, some (.int x)] st A Q ↔ XX d 124 80 [v0, v1, v2, v3, v4, v5, v6, v7, v8, v9, some (.int x)] (.int x :: st) A Q := c_lcl i_124_78 rfl rfl
theorem q_124_80 : XX d 124 80 [v0, v1, v2, v3, some (.int z), v5, v6, v7, v8, v9, v10] (.int x :: st) A Q ↔ XX d 124 82 [v0, v1, v2, v3, some (.int z), some (.int x), v6, v7, v8, v9, v10] st A Q := c_lcl i_124_80 rfl rfl
theorem q_124_82 : XX d 124 82 [v0, v1, v2, v3, v4, v5, v6, v7, v8, some (.int x), v10] st A Q ↔ XX d 124 84 [v0, v1, v2, v3, v4, v5, v6, v7, v8, some (.int x), v10] (.int x :: st) A Q := c_lcl i_124_82 rfl rfl
theorem q_124_84 : XX d 124 84 [v0, v1, v2, v3, v4, v5, v6, v7, v8, v9, v10] st A Q ↔ XX d 124 85 [v0, v1, v2, v3, v4, v5, v6, v7, v8, v9, v10] (.int (w 1) :: st) A Q := c_stk i_124_84 rfl
theorem q_124_85 : XX d 124 85 [v0, v1, v2, v3, v4, v5, v6, v7, v8, v9, v10] (.int y :: .int x :: st) A Q ↔ if x = y then XX d 124 88 [v0, v1, v2, v3, v4, v5, v6, v7, v8, v9, v10] st A Q else XX d 124 91 [v0, v1, v2, v3, v4, v5, v6, v7, v8, v9, v10] st A Q := b_ne i_124_85 rfl rfl rfl
theorem q_124_88 : XX d 124 88 [v0, v1, v2, v3, v4, some (.int z), some (.int x), v7, v8, v9, v10] st A Q ↔ XX d 124 91 [v0, v1, v2, v3, v4, some (.int z), some (.int (x + w 1)), v7, v8, v9, v10] st A Q := c_lcl i_124_88 rfl rfl
theorem q_124_91 : XX d 124 91 [v0, v1, v2, v3, v4, v5, v6, v7, v8, some (.int x), v10] st A Q ↔ XX d 124 93 [v0, v1, v2, v3, v4, v5, v6, v7, v8, some (.int x), v10] (.int x :: st) A Q := c_lcl i_124_91 rfl rfl
theorem q_124_93 : XX d 124 93 [v0, v1, v2, v3, v4, v5, v6, some (.int x), v8, v9, v10] st A Q ↔ XX d 124 95 [v0, v1, v2, v3, v4, v5, v6, some (.int x), v8, v9, v10] (.int x :: st) A Q := c_lcl i_124_93 rfl rfl
theorem q_124_95 : XX d 124 95 [v0, v1, v2, v3, v4, v5, v6, v7, v8, v9, v10] (.int y :: .int x :: st) A Q ↔ if y < x then XX d 124 98 [v0, v1, v2, v3, v4, v5, v6, v7, v8, v9, v10] st A Q else XX d 124 111 [v0, v1, v2, v3, v4, v5, v6, v7, v8, v9, v10] st A Q := b_le i_124_95 rfl rfl rfl
theorem q_124_98 : XX d 124 98 [v0, v1, v2, v3, v4, v5, v6, v7, v8, some (.int x), v10] st A Q ↔ XX d 124 100 [v0, v1, v2, v3, v4, v5, v6, v7, v8, some (.int x), v10] (.int x :: st) A Q := c_lcl i_124_98 rfl rfl
theorem q_124_100 : XX d 124 100 [v0, v1, v2, v3, v4, v5, some (.int z), v7, v8, v9, v10] (.int x :: st) A Q ↔ XX d 124 102 [v0, v1, v2, v3, v4, v5, some (.int z), some (.int x), v8, v9, v10] st A Q := c_lcl i_124_100 rfl rfl
theorem q_124_102 : XX d 124 102 [v0, v1, v2, v3, v4, v5, v6, v7, v8, v9, some (.int x)] st A Q ↔ XX d 124 104 [v0, v1, v2, v3, v4, v5, v6, v7, v8, v9, some (.int x)] (.int x :: st) A Q := c_lcl i_124_102 rfl rfl
theorem q_124_104 : XX d 124 104 [v0, v1, v2, v3, v4, v5, v6, v7, v8, some (.int x), v10] st A Q ↔ XX d 124 106 [v0, v1, v2, v3, v4, v5, v6, v7, v8, some (.int x), v10] (.int x :: st) A Q := c_lcl i_124_104 rfl rfl
theorem q_124_106 : XX d 124 106 [v0, v1, v2, v3, v4, v5, v6, v7, v8, v9, v10] (.int y :: .int x :: st) A Q ↔ XX d 124 107 [v0, v1, v2, v3, v4, v5, v6, v7, v8, v9, v10] (.int (x - y) :: st) A Q := c_stk i_124_106 rfl
theorem q_124_107 : XX d 124 107 [v0, v1, v2, v3, v4, v5, v6, v7, v8, v9, v10] st A Q ↔ XX d 124 108 [v0, v1, v2, v3, v4, v5, v6, v7, v8, v9, v10] (.int (w 1) :: st) A Q := c_stk i_124_107 rfl
theorem q_124_108 : XX d 124 108 [v0, v1, v2, v3, v4, v5, v6, v7, v8, v9, v10] (.int y :: .int x :: st) A Q ↔ XX d 124 109 [v0, v1, v2, v3, v4, v5, v6, v7, v8, v9, v10] (.int (x + y) :: st) A Q := c_stk i_124_108 rfl
theorem q_124_109 : XX d 124 109 [v0, v1, v2, v3, v4, v5, v6, some (.int z), v8, v9, v10] (.int x :: st) A Q ↔ XX d 124 111 [v0, v1, v2, v3, v4, v5, v6, some (.int z), some (.int x), v9, v10] st A Q := c_lcl i_124_109 rfl rfl
theorem q_124_111 : XX d 124 111 [v0, v1, v2, v3, v4, v5, v6, v7, v8, some (.int z), some (.int x)] st A Q ↔ XX d 124 114 [v0, v1, v2, v3, v4, v5, v6, v7, v8, some (.int z), some (.int (x + w 1))] st A Q := c_lcl i_124_111 rfl rfl
theorem q_124_114 : XX d 124 114 [v0, v1, v2, v3, v4, v5, v6, v7, v8, v9, v10] st A Q ↔ XX d 124 39 [v0, v1, v2, v3, v4, v5, v6, v7, v8, v9, v10] st A Q := c_go i_124_114 rfl rfl
theorem q_124_117 : XX d 124 117 [v0, v1, some (.int x), v3, v4, v5, v6, v7, v8, v9, v10] st A Q ↔ XX d 124 118 [v0, v1, some (.int x), v3, v4, v5, v6, v7, v8, v9, v10] (.int x :: st) A Q := c_lcl i_124_117 rfl rfl
theorem q_124_118 : XX d 124 118 [v0, v1, v2, v3, v4, v5, v6, v7, v8, v9, v10] (.int x :: st) A Q ↔ XX d 124 (swT [148, 151, 154, 157] 160 0 x.toInt) [v0, v1, v2, v3, v4, v5, v6, v7, v8, v9, v10] st A Q := c_tab i_124_118 rfl rfl rfl rfl
theorem q_124_148 : XX d 124 148 [v0, v1, v2, v3, some (.int x), v5, v6, v7, v8, v9, v10] st A Q ↔ XX d 124 150 [v0, v1, v2, v3, some (.int x), v5, v6, v7, v8, v9, v10] (.int x :: st) A Q := c_lcl i_124_148 rfl rfl
theorem q_124_150 : XX d 124 150 [v0, v1, v2, v3, v4, v5, v6, v7, v8, v9, v10] [.int x] A Q ↔ Q (.inl (some (.int x))) A := e_retI i_124_150 rfl
theorem q_124_151 : XX d 124 151 [v0, v1, v2, v3, v4, some (.int x), v6, v7, v8, v9, v10] st A Q ↔ XX d 124 153 [v0, v1, v2, v3, v4, some (.int x), v6, v7, v8, v9, v10] (.int x :: st) A Q := c_lcl i_124_151 rfl rfl
theorem q_124_153 : XX d 124 153 [v0, v1, v2, v3, v4, v5, v6, v7, v8, v9, v10] [.int x] A Q ↔ Q (.inl (some (.int x))) A := e_retI i_124_153 rfl
theorem q_124_154 : XX d 124 154 [v0, v1, v2, v3, v4, v5, some (.int x), v7, v8, v9, v10] st A Q ↔ XX d 124 156 [v0, v1, v2, v3, v4, v5, some (.int x), v7, v8, v9, v10] (.int x :: st) A Q := c_lcl i_124_154 rfl rfl
theorem q_124_156 : XX d 124 156 [v0, v1, v2, v3, v4, v5, v6, v7, v8, v9, v10] [.int x] A Q ↔ Q (.inl (some (.int x))) A := e_retI i_124_156 rfl
theorem q_124_157 : XX d 124 157 [v0, v1, v2, v3, v4, v5, v6, some (.int x), v8, v9, v10] st A Q ↔ XX d 124 159 [v0, v1, v2, v3, v4, v5, v6, some (.int x), v8, v9, v10] (.int x :: st) A Q := c_lcl i_124_157 rfl rfl
theorem q_124_159 : XX d 124 159 [v0, v1, v2, v3, v4, v5, v6, v7, v8, v9, v10] [.int x] A Q ↔ Q (.inl (some (.int x))) A := e_retI i_124_159 rfl
theorem q_124_160 : XX d 124 160 [v0, v1, v2, v3, v4, v5, v6, v7, some (.int x), v9, v10] st A Q ↔ XX d 124 162 [v0, v1, v2, v3, v4, v5, v6, v7, some (.int x), v9, v10] (.int x :: st) A Q := c_lcl i_124_160 rfl rfl
theorem q_124_162 : XX d 124 162 [v0, v1, v2, v3, v4, v5, v6, v7, v8, v9, v10] [.int x] A Q ↔ Q (.inl (some (.int x))) A := e_retI i_124_162 rfl
theorem q_124_e : XC d 124 [.ref a0, .int x1, .int x2] A Q ↔ XX d 124 0 [some (.ref a0), some (.int x1), some (.int x2), none, none, none, none, none, none, none, none] [] A Q := Iff.rfl
theorem i_125_0 : t_ins 125 0 = some (.aload_n 0) := by decide +kernel
theorem i_125_1 : t_ins 125 1 = some (.iload_n 1) := by decide +kernel
theorem i_125_2 : t_ins 125 2 = some (.invokevirtual 206) := by decide +kernel
theorem i_125_5 : t_ins 125 5 = some (.aload_n 0) := by decide +kernel
theorem i_125_6 : t_ins 125 6 = some (.iload_n 2) := by decide +kernel
theorem i_125_7 : t_ins 125 7 = some (.iconst 0) := by decide +kernel
theorem i_125_8 : t_ins 125 8 = some (.iconst 3) := by decide +kernel
theorem i_125_9 : t_ins 125 9 = some (.invokevirtual 89) := by decide +kernel
theorem i_125_12 : t_ins 125 12 = some (.aload_n 0) := by decide +kernel
theorem i_125_13 : t_ins 125 13 = some (.iload_n 1) := by decide +kernel
theorem i_125_14 : t_ins 125 14 = some (.invokevirtual 166) := by decide +kernel
theorem i_125_17 : t_ins 125 17 = some (.aload_n 0) := by decide +kernel
theorem i_125_18 : t_ins 125 18 = some (.getfield 19) := by decide +kernel
theorem i_125_21 : t_ins 125 21 = some (.getfield 137) := by decide +kernel
theorem i_125_24 : t_ins 125 24 = some (.invokevirtual 250) := by decide +kernel
theorem i_125_27 : t_ins 125 27 = some (.astore_n 3) := by decide +kernel
theorem i_125_28 : t_ins 125 28 = some (.aload_n 3) := by decide +kernel
theorem i_125_29 : t_ins 125 29 = some (.invokevirtual 253) := by decide +kernel
theorem i_125_32 : t_ins 125 32 = some (.iload_n 2) := by decide +kernel
theorem i_125_33 : t_ins 125 33 = some (.tableswitch 42 0 2 #[27, 32, 37]) := by decide +kernel
theorem i_125_60 : t_ins 125 60 = some (.aload_n 3) := by decide +kernel
theorem i_125_61 : t_ins 125 61 = some (.getfield 256) := by decide +kernel
theorem i_125_64 : t_ins 125 64 = some (.ireturn) := by decide +kernel
theorem i_125_65 : t_ins 125 65 = some (.aload_n 3) := by decide +kernel
theorem i_125_66 : t_ins 125 66 = some (.getfield 259) := by decide +kernel
theorem i_125_69 : t_ins 125 69 = some (.ireturn) := by decide +kernel
theorem i_125_70 : t_ins 125 70 = some (.aload_n 3) := by decide +kernel
theorem i_125_71 : t_ins 125 71 = some (.getfield 262) := by decide +kernel
theorem i_125_74 : t_ins 125 74 = some (.ireturn) := by decide +kernel
theorem i_125_75 : t_ins 125 75 = some (.aload_n 3) := by decide +kernel
theorem i_125_76 : t_ins 125 76 = some (.getfield 265) := by decide +kernel
theorem i_125_79 : t_ins 125 79 = some (.ireturn) := by decide +kernel
theorem q_125_0 : XX d 125 0 [some (.ref a), v1, v2, v3] st A Q ↔ XX d 125 1 [some (.ref a), v1, v2, v3] (.ref a :: st) A Q := c_lcl i_125_0 rfl rfl
theorem q_125_1 : XX d 125 1 [v0, some (.int x), v2, v3] st A Q ↔ XX d 125 2 [v0, some (.int x), v2, v3] (.int x :: st) A Q := c_lcl i_125_1 rfl rfl
theorem q_125_2 : XX (d + 1) 125 2 [v0, v1, v2, v3] [.int x1, .ref a0] (mk S I L R G) Q ↔ S a0 = some (.inr 11) ∧ XC d 143 [.ref a0, .int x1] (mk S I L R G) (XK (d + 1) 125 2 [v0, v1, v2, v3] [] Q) := c_callV i_125_2 rfl rfl rfl rfl (Nat.le_of_ble_eq_true rfl) (Nat.le_of_ble_eq_true rfl) rfl
theorem q_125_5 : XX d 125 5 [some (.ref a), v1, v2, v3] st A Q ↔ XX d 125 6 [some (.ref a), v1, v2, v3] (.ref a :: st) A Q := c_lcl i_125_5 rfl rfl
theorem q_125_6 : XX d 125 6 [v0, v1, some (.int x), v3] st A Q ↔ XX d 125 7 [v0, v1, some (.int x), v3] (.int x :: st) A Q := c_lcl i_125_6 rfl rfl
theorem q_125_7 : XX d 125 7 [v0, v1, v2, v3] st A Q ↔ XX d 125 8 [v0, v1, v2, v3] (.int (w 0) :: st) A Q := c_stk i_125_7 rfl
theorem q_125_8 : XX d 125 8 [v0, v1, v2, v3] st A Q ↔ XX d 125 9 [v0, v1, v2, v3] (.int (w 3) :: st) A Q := c_stk i_125_8 rfl
theorem q_125_9 : XX (d + 1) 125 9 [v0, v1, v2, v3] [.int x3, .int x2, .int x1, .ref a0] (mk S I L R G) Q ↔ S a0 = some (.inr 11) ∧ XC d 146 [.ref a0, .int x1, .int x2, .int x3] (mk S I L R G) (XK (d + 1) 125 9 [v0, v1, v2, v3] [] Q) := c_callV i_125_9 rfl rfl rfl rfl (Nat.le_of_ble_eq_true rfl) (Nat.le_of_ble_eq_true rfl) rfl
theorem q_125_12 : XX d 125 12 [some (.ref a), v1, v2, v3] st A Q ↔ XX d 125 13 [some (.ref a), v1, v2, v3] (.ref a :: st) A Q := c_lcl i_125_12 rfl rfl
theorem q_125_13 : XX d 125 13 [v0, some (.int x), v2, v3] st A Q ↔ XX d 125 14 [v0, some (.int x), v2, v3] (.int x :: st) A Q := c_lcl i_125_13 rfl rfl
theorem q_125_14 : XX (d + 1) 125 14 [v0, v1, v2, v3] [.int x1, .ref a0] (mk S I L R G) Q ↔ S a0 = some (.inr 11) ∧ XC d 141 [.ref a0, .int x1] (mk S I L R G) (XK (d + 1) 125 14 [v0, v1, v2, v3] [] Q) := c_callV i_125_14 rfl rfl rfl rfl (Nat.le_of_ble_eq_true rfl) (Nat.le_of_ble_eq_true rfl) rfl
theorem q_125_17 : XX d 125 17 [some (.ref a), v1, v2, v3] st A Q ↔ XX d 125 18 [some (.ref a), v1, v2, v3] (.ref a :: st) A Q := c_lcl i_125_17 rfl rfl
theorem q_125_18 : XX d 125 18 [v0, v1, v2, v3] (.ref a :: st) (mk S I L R G) Q ↔ S a = some (.inr 11) ∧ XX d 125 21 [v0, v1, v2, v3] (.ref (a + 3) :: st) (mk S I L R G) Q := r_gf i_125_18 rfl (by decide) rfl
theorem q_125_21 : XX d 125 21 [v0, v1, v2, v3] (.ref a :: st) (mk S I L R G) Q ↔ S a = some (.inr 0) ∧ XX d 125 24 [v0, v1, v2, v3] (.int (I a 2) :: st) (mk S I L R G) Q := r_gf i_125_21 rfl (by decide) rfl
theorem q_125_24 : XX (d + 1) 125 24 [v0, v1, v2, v3] [.int x1, .ref a0] (mk S I L R G) Q ↔ S a0 = some (.inr 5) ∧ XC d 43 [.ref a0, .int x1] (mk S I L R G) (XK (d + 1) 125 24 [v0, v1, v2, v3] [] Q) := c_callV i_125_24 rfl rfl rfl rfl (Nat.le_of_ble_eq_true rfl) (Nat.le_of_ble_eq_true rfl) rfl
theorem q_125_27 : XX d 125 27 [v0, v1, some (.int z), v3] (.ref a :: st) A Q ↔ XX d 125 28 [v0, v1, some (.int z), some (.ref a)] st A Q := c_lcl i_125_27 rfl rfl
theorem q_125_28 : XX d 125 28 [v0, v1, v2, some (.ref a)] st A Q ↔ XX d 125 29 [v0, v1, v2, some (.ref a)] (.ref a :: st) A Q := c_lcl i_125_28 rfl rfl
theorem q_125_29 : XX (d + 1) 125 29 [v0, v1, v2, v3] [.ref a0] (mk S I L R G) Q ↔ S a0 = some (.inr 5) ∧ XC d 52 [.ref a0] (mk S I L R G) (XK (d + 1) 125 29 [v0, v1, v2, v3] [] Q) := c_callV i_125_29 rfl rfl rfl rfl (Nat.le_of_ble_eq_true rfl) (Nat.le_of_ble_eq_true rfl) rfl
theorem q_125_32 : XX d 125 32 [v0, v1, some (.int x), v3] st A Q ↔ XX d 125 33 [v0, v1, some (.int x), v3] (.int x :: st) A Q := c_lcl i_125_32 rfl rfl
theorem q_125_33 : XX d 125 33 [v0, v1, v2, v3] (.int x :: st) A Q ↔ XX d 125 (swT [60, 65, 70] 75 0 x.toInt) [v0, v1, v2, v3] st A Q := c_tab i_125_33 rfl rfl rfl rfl
theorem q_125_60 : XX d 125 60 [v0, v1, v2, some (.ref a)] st A Q ↔ XX d 125 61 [v0, v1, v2, some (.ref a)] (.ref a :: st) A Q := c_lcl i_125_60 rfl rfl
theorem q_125_61 : XX d 125 61 [v0, v1, v2, v3] (.ref a :: st) (mk S I L R G) Q ↔ S a = some (.inr 5) ∧ XX d 125 64 [v0, v1, v2, v3] (.int (I a 7) :: st) (mk S I L R G) Q := r_gf i_125_61 rfl (by decide) rfl
theorem q_125_64 : XX d 125 64 [v0, v1, v2, v3] [.int x] A Q ↔ Q (.inl (some (.int x))) A := e_retI i_125_64 rfl
theorem q_125_65 : XX d 125 65 [v0, v1, v2, some (.ref a)] st A Q ↔ XX d 125 66 [v0, v1, v2, some (.ref a)] (.ref a :: st) A Q := c_lcl i_125_65 rfl rfl
theorem q_125_66 : XX d 125 66 [v0, v1, v2, v3] (.ref a :: st) (mk S I L R G) Q ↔ S a = some (.inr 5) ∧ XX d 125 69 [v0, v1, v2, v3] (.int (I a 8) :: st) (mk S I L R G) Q := r_gf i_125_66 rfl (by decide) rfl
theorem q_125_69 : XX d 125 69 [v0, v1, v2, v3] [.int x] A Q ↔ Q (.inl (some (.int x))) A := e_retI i_125_69 rfl
theorem q_125_70 : XX d 125 70 [v0, v1, v2, some (.ref a)] st A Q ↔ XX d 125 71 [v0, v1, v2, some (.ref a)] (.ref a :: st) A Q := c_lcl i_125_70 rfl rfl
theorem q_125_71 : XX d 125 71 [v0, v1, v2, v3] (.ref a :: st) (mk S I L R G) Q ↔ S a = some (.inr 5) ∧ XX d 125 74 [v0, v1, v2, v3] (.int (I a 9) :: st) (mk S I L R G) Q := r_gf i_125_71 rfl (by decide) rfl
theorem q_125_74 : XX d 125 74 [v0, v1, v2, v3] [.int x] A Q ↔ Q (.inl (some (.int x))) A := e_retI i_125_74 rfl
theorem q_125_75 : XX d 125 75 [v0, v1, v2, some (.ref a)] st A Q ↔ XX d 125 76 [v0, v1, v2, some (.ref a)] (.ref a :: st) A Q := c_lcl i_125_75 rfl rfl
theorem q_125_76 : XX d 125 76 [v0, v1, v2, v3] (.ref a :: st) (mk S I L R G) Q ↔ S a = some (.inr 5) ∧ XX d 125 79 [v0, v1, v2, v3] (.int (I a 10) :: st) (mk S I L R G) Q := r_gf i_125_76 rfl (by decide) rfl
theorem q_125_79 : XX d 125 79 [v0, v1, v2, v3] [.int x] A Q ↔ Q (.inl (some (.int x))) A := e_retI i_125_79 rfl
theorem q_125_e : XC d 125 [.ref a0, .int x1, .int x2] A Q ↔ XX d 125 0 [some (.ref a0), some (.int x1), some (.int x2), none] [] A Q := Iff.rfl
end

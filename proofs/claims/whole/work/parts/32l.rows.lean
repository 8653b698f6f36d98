/-! rows of methods 234 to 264 -/
section
variable {d : Nat} {Q : XO → Hp → Prop} {S : SH} {I : MI} {L : ML} {R : MR} {G : MG} {A : Hp} {st : List Value} {x y z x0 x1 x2 x3 x4 x5 x6 x7 x8 x9 : Int32} {lx ly l0 l1 l2 l3 l4 l5 l6 : Int64} {t kk jj a b a0 a1 a2 a3 a4 a5 a6 a7 a8 a9 : Nat} {o o0 o1 o2 o3 o4 : Option Nat} {v0 v1 v2 v3 v4 v5 v6 v7 v8 v9 v10 v11 v12 v13 v14 v15 v16 v17 v18 v19 v20 : Option Value}
theorem i_234_0 : t_ins 234 0 = some (.iload_n 2) := by decide +kernel
theorem i_234_1 : t_ins 234 1 = some (.iload_n 1) := by decide +kernel
theorem i_234_2 : t_ins 234 2 = some (.isub) := by decide +kernel
theorem i_234_3 : t_ins 234 3 = some (.iconst 2) := by decide +kernel
theorem i_234_4 : t_ins 234 4 = some (.if_icmp .ge 4) := by decide +kernel
theorem i_234_7 : t_ins 234 7 = some (.return_) := by decide +kernel
theorem i_234_8 : t_ins 234 8 = some (.iload_n 1) := by decide +kernel
theorem i_234_9 : t_ins 234 9 = some (.iload_n 2) := by decide +kernel
theorem i_234_10 : t_ins 234 10 = some (.iadd) := by decide +kernel
theorem i_234_11 : t_ins 234 11 = some (.iconst 2) := by decide +kernel
theorem i_234_12 : t_ins 234 12 = some (.idiv) := by decide +kernel
theorem i_234_13 : t_ins 234 13 = some (.istore_n 3) := by decide +kernel
theorem i_234_14 : t_ins 234 14 = some (.iload_n 1) := by decide +kernel
theorem i_234_15 : t_ins 234 15 = some (.istore 4) := by decide +kernel
theorem i_234_17 : t_ins 234 17 = some (.iload_n 3) := by decide +kernel
theorem i_234_18 : t_ins 234 18 = some (.istore 5) := by decide +kernel
theorem i_234_20 : t_ins 234 20 = some (.aload_n 0) := by decide +kernel
theorem i_234_21 : t_ins 234 21 = some (.iload_n 1) := by decide +kernel
theorem i_234_22 : t_ins 234 22 = some (.iload_n 3) := by decide +kernel
theorem i_234_23 : t_ins 234 23 = some (.invokevirtual 373) := by decide +kernel
theorem i_234_26 : t_ins 234 26 = some (.aload_n 0) := by decide +kernel
theorem i_234_27 : t_ins 234 27 = some (.iload_n 3) := by decide +kernel
theorem i_234_28 : t_ins 234 28 = some (.iload_n 2) := by decide +kernel
theorem i_234_29 : t_ins 234 29 = some (.invokevirtual 373) := by decide +kernel
theorem i_234_32 : t_ins 234 32 = some (.iload_n 1) := by decide +kernel
theorem i_234_33 : t_ins 234 33 = some (.istore 6) := by decide +kernel
theorem i_234_35 : t_ins 234 35 = some (.iload 6) := by decide +kernel
theorem i_234_37 : t_ins 234 37 = some (.iload_n 2) := by decide +kernel
theorem i_234_38 : t_ins 234 38 = some (.if_icmp .ge 92) := by decide +kernel
theorem i_234_41 : t_ins 234 41 = some (.iload 5) := by decide +kernel
theorem i_234_43 : t_ins 234 43 = some (.iload_n 2) := by decide +kernel
theorem i_234_44 : t_ins 234 44 = some (.if_icmp .eq 30) := by decide +kernel
theorem i_234_47 : t_ins 234 47 = some (.iload 4) := by decide +kernel
theorem i_234_49 : t_ins 234 49 = some (.iload_n 3) := by decide +kernel
theorem i_234_50 : t_ins 234 50 = some (.if_icmp .ge 28) := by decide +kernel
theorem i_234_53 : t_ins 234 53 = some (.aload_n 0) := by decide +kernel
theorem i_234_54 : t_ins 234 54 = some (.aload_n 0) := by decide +kernel
theorem i_234_55 : t_ins 234 55 = some (.getfield 118) := by decide +kernel
theorem i_234_58 : t_ins 234 58 = some (.iload 4) := by decide +kernel
theorem i_234_60 : t_ins 234 60 = some (.iaload) := by decide +kernel
theorem i_234_61 : t_ins 234 61 = some (.aload_n 0) := by decide +kernel
theorem i_234_62 : t_ins 234 62 = some (.getfield 118) := by decide +kernel
theorem i_234_65 : t_ins 234 65 = some (.iload 5) := by decide +kernel
theorem i_234_67 : t_ins 234 67 = some (.iaload) := by decide +kernel
theorem i_234_68 : t_ins 234 68 = some (.invokevirtual 376) := by decide +kernel
theorem i_234_71 : t_ins 234 71 = some (.ifCond .gt 7) := by decide +kernel
theorem i_234_74 : t_ins 234 74 = some (.iconst 1) := by decide +kernel
theorem i_234_75 : t_ins 234 75 = some (.goto 4) := by decide +kernel
theorem i_234_78 : t_ins 234 78 = some (.iconst 0) := by decide +kernel
theorem i_234_79 : t_ins 234 79 = some (.istore 7) := by decide +kernel
theorem i_234_81 : t_ins 234 81 = some (.aload_n 0) := by decide +kernel
theorem i_234_82 : t_ins 234 82 = some (.getfield 115) := by decide +kernel
theorem i_234_85 : t_ins 234 85 = some (.iload 6) := by decide +kernel
theorem i_234_87 : t_ins 234 87 = some (.iload 7) := by decide +kernel
theorem i_234_89 : t_ins 234 89 = some (.ifCond .eq 13) := by decide +kernel
theorem i_234_92 : t_ins 234 92 = some (.aload_n 0) := by decide +kernel
theorem i_234_93 : t_ins 234 93 = some (.getfield 118) := by decide +kernel
theorem i_234_96 : t_ins 234 96 = some (.iload 4) := by decide +kernel
theorem i_234_98 : t_ins 234 98 = some (.iaload) := by decide +kernel
theorem i_234_99 : t_ins 234 99 = some (.goto 10) := by decide +kernel
theorem i_234_102 : t_ins 234 102 = some (.aload_n 0) := by decide +kernel
theorem i_234_103 : t_ins 234 103 = some (.getfield 118) := by decide +kernel
theorem i_234_106 : t_ins 234 106 = some (.iload 5) := by decide +kernel
theorem i_234_108 : t_ins 234 108 = some (.iaload) := by decide +kernel
theorem i_234_109 : t_ins 234 109 = some (.iastore) := by decide +kernel
theorem i_234_110 : t_ins 234 110 = some (.iload 7) := by decide +kernel
theorem i_234_112 : t_ins 234 112 = some (.ifCond .eq 9) := by decide +kernel
theorem i_234_115 : t_ins 234 115 = some (.iinc 4 1) := by decide +kernel
theorem i_234_118 : t_ins 234 118 = some (.goto 6) := by decide +kernel
theorem i_234_121 : t_ins 234 121 = some (.iinc 5 1) := by decide +kernel
theorem i_234_124 : t_ins 234 124 = some (.iinc 6 1) := by decide +kernel
theorem i_234_127 : t_ins 234 127 = some (.goto (-92)) := by decide +kernel
theorem i_234_130 : t_ins 234 130 = some (.iload_n 1) := by decide +kernel
theorem i_234_131 : t_ins 234 131 = some (.istore 6) := by decide +kernel
theorem i_234_133 : t_ins 234 133 = some (.iload 6) := by decide +kernel
theorem i_234_135 : t_ins 234 135 = some (.iload_n 2) := by decide +kernel
theorem i_234_136 : t_ins 234 136 = some (.if_icmp .ge 23) := by decide +kernel
theorem i_234_139 : t_ins 234 139 = some (.aload_n 0) := by decide +kernel
theorem i_234_140 : t_ins 234 140 = some (.getfield 118) := by decide +kernel
theorem i_234_143 : t_ins 234 143 = some (.iload 6) := by decide +kernel
theorem i_234_145 : t_ins 234 145 = some (.aload_n 0) := by decide +kernel
theorem i_234_146 : t_ins 234 146 = some (.getfield 115) := by decide +kernel
theorem i_234_149 : t_ins 234 149 = some (.iload 6) := by decide +kernel
theorem i_234_151 : t_ins 234 151 = some (.iaload) := by decide +kernel
theorem i_234_152 : t_ins 234 152 = some (.iastore) := by decide +kernel
theorem i_234_153 : t_ins 234 153 = some (.iinc 6 1) := by decide +kernel
theorem i_234_156 : t_ins 234 156 = some (.goto (-23)) := by decide +kernel
theorem i_234_159 : t_ins 234 159 = some (.return_) := by decide +kernel
theorem q_234_0 : XX d 234 0 [v0, v1, some (.int x), v3, v4, v5, v6, v7] st A Q ↔ XX d 234 1 [v0, v1, some (.int x), v3, v4, v5, v6, v7] (.int x :: st) A Q := c_lcl i_234_0 rfl rfl
theorem q_234_1 : XX d 234 1 [v0, some (.int x), v2, v3, v4, v5, v6, v7] st A Q ↔ XX d 234 2 [v0, some (.int x), v2, v3, v4, v5, v6, v7] (.int x :: st) A Q := c_lcl i_234_1 rfl rfl
theorem q_234_2 : XX d 234 2 [v0, v1, v2, v3, v4, v5, v6, v7] (.int y :: .int x :: st) A Q ↔ XX d 234 3 [v0, v1, v2, v3, v4, v5, v6, v7] (.int (x - y) :: st) A Q := c_stk i_234_2 rfl
theorem q_234_3 : XX d 234 3 [v0, v1, v2, v3, v4, v5, v6, v7] st A Q ↔ XX d 234 4 [v0, v1, v2, v3, v4, v5, v6, v7] (.int (w 2) :: st) A Q := c_stk i_234_3 rfl
theorem q_234_4 : XX d 234 4 [v0, v1, v2, v3, v4, v5, v6, v7] (.int y :: .int x :: st) A Q ↔ if x < y then XX d 234 7 [v0, v1, v2, v3, v4, v5, v6, v7] st A Q else XX d 234 8 [v0, v1, v2, v3, v4, v5, v6, v7] st A Q := b_ge i_234_4 rfl rfl rfl
theorem q_234_7 : XX d 234 7 [v0, v1, v2, v3, v4, v5, v6, v7] [] A Q ↔ Q (.inl none) A := e_retN i_234_7 rfl
theorem q_234_8 : XX d 234 8 [v0, some (.int x), v2, v3, v4, v5, v6, v7] st A Q ↔ XX d 234 9 [v0, some (.int x), v2, v3, v4, v5, v6, v7] (.int x :: st) A Q := c_lcl i_234_8 rfl rfl
theorem q_234_9 : XX d 234 9 [v0, v1, some (.int x), v3, v4, v5, v6, v7] st A Q ↔ XX d 234 10 [v0, v1, some (.int x), v3, v4, v5, v6, v7] (.int x :: st) A Q := c_lcl i_234_9 rfl rfl
theorem q_234_10 : XX d 234 10 [v0, v1, v2, v3, v4, v5, v6, v7] (.int y :: .int x :: st) A Q ↔ XX d 234 11 [v0, v1, v2, v3, v4, v5, v6, v7] (.int (x + y) :: st) A Q := c_stk i_234_10 rfl
theorem q_234_11 : XX d 234 11 [v0, v1, v2, v3, v4, v5, v6, v7] st A Q ↔ XX d 234 12 [v0, v1, v2, v3, v4, v5, v6, v7] (.int (w 2) :: st) A Q := c_stk i_234_11 rfl
theorem q_234_12 : XX d 234 12 [v0, v1, v2, v3, v4, v5, v6, v7] (.int y :: .int x :: st) A Q ↔ ¬ y = w 0 ∧ XX d 234 13 [v0, v1, v2, v3, v4, v5, v6, v7] (.int (x / y) :: st) A Q := c_div i_234_12
theorem q_234_13 : XX d 234 13 [v0, v1, some (.int z), v3, v4, v5, v6, v7] (.int x :: st) A Q ↔ XX d 234 14 [v0, v1, some (.int z), some (.int x), v4, v5, v6, v7] st A Q := c_lcl i_234_13 rfl rfl
theorem q_234_14 : XX d 234 14 [v0, some (.int x), v2, v3, v4, v5, v6, v7] st A Q ↔ XX d 234 15 [v0, some (.int x), v2, v3, v4, v5, v6, v7] (.int x :: st) A Q := c_lcl i_234_14 rfl rfl
theorem q_234_15 : XX d 234 15 [v0, v1, v2, some (.int z), v4, v5, v6, v7] (.int x :: st) A Q ↔ XX d 234 17 [v0, v1, v2, some (.int z), some (.int x), v5, v6, v7] st A Q := c_lcl i_234_15 rfl rfl
theorem q_234_17 : XX d 234 17 [v0, v1, v2, some (.int x), v4, v5, v6, v7] st A Q ↔ XX d 234 18 [v0, v1, v2, some (.int x), v4, v5, v6, v7] (.int x :: st) A Q := c_lcl i_234_17 rfl rfl
theorem q_234_18 : XX d 234 18 [v0, v1, v2, v3, some (.int z), v5, v6, v7] (.int x :: st) A Q ↔ XX d 234 20 [v0, v1, v2, v3, some (.int z), some (.int x), v6, v7] st A Q := c_lcl i_234_18 rfl rfl
theorem q_234_20 : XX d 234 20 [some (.ref a), v1, v2, v3, v4, v5, v6, v7] st A Q ↔ XX d 234 21 [some (.ref a), v1, v2, v3, v4, v5, v6, v7] (.ref a :: st) A Q := c_lcl i_234_20 rfl rfl
theorem q_234_21 : XX d 234 21 [v0, some (.int x), v2, v3, v4, v5, v6, v7] st A Q ↔ XX d 234 22 [v0, some (.int x), v2, v3, v4, v5, v6, v7] (.int x :: st) A Q := c_lcl i_234_21 rfl rfl
theorem q_234_22 : XX d 234 22 [v0, v1, v2, some (.int x), v4, v5, v6, v7] st A Q ↔ XX d 234 23 [v0, v1, v2, some (.int x), v4, v5, v6, v7] (.int x :: st) A Q := c_lcl i_234_22 rfl rfl
theorem q_234_23 : XX (d + 1) 234 23 [v0, v1, v2, v3, v4, v5, v6, v7] [.int x2, .int x1, .ref a0] (mk S I L R G) Q ↔ S a0 = some (.inr 12) ∧ XC d 234 [.ref a0, .int x1, .int x2] (mk S I L R G) (XK (d + 1) 234 23 [v0, v1, v2, v3, v4, v5, v6, v7] [] Q) := c_callV i_234_23 rfl rfl rfl rfl (Nat.le_of_ble_eq_true rfl) (Nat.le_of_ble_eq_true rfl) rfl
theorem q_234_26 : XX d 234 26 [some (.ref a), v1, v2, v3, v4, v5, v6, v7] st A Q ↔ XX d 234 27 [some (.ref a), v1, v2, v3, v4, v5, v6, v7] (.ref a :: st) A Q := c_lcl i_234_26 rfl rfl
theorem q_234_27 : XX d 234 27 [v0, v1, v2, some (.int x), v4, v5, v6, v7] st A Q ↔ XX d 234 28 [v0, v1, v2, some (.int x), v4, v5, v6, v7] (.int x :: st) A Q := c_lcl i_234_27 rfl rfl
theorem q_234_28 : XX d 234 28 [v0, v1, some (.int x), v3, v4, v5, v6, v7] st A Q ↔ XX d 234 29 [v0, v1, some (.int x), v3, v4, v5, v6, v7] (.int x :: st) A Q := c_lcl i_234_28 rfl rfl
theorem q_234_29 : XX (d + 1) 234 29 [v0, v1, v2, v3, v4, v5, v6, v7] [.int x2, .int x1, .ref a0] (mk S I L R G) Q ↔ S a0 = some (.inr 12) ∧ XC d 234 [.ref a0, .int x1, .int x2] (mk S I L R G) (XK (d + 1) 234 29 [v0, v1, v2, v3, v4, v5, v6, v7] [] Q) := c_callV i_234_29 rfl rfl rfl rfl (Nat.le_of_ble_eq_true rfl) (Nat.le_of_ble_eq_true rfl) rfl
theorem q_234_32 : XX d 234 32 [v0, some (.int x), v2, v3, v4, v5, v6, v7] st A Q ↔ XX d 234 33 [v0, some (.int x), v2, v3, v4, v5, v6, v7] (.int x :: st) A Q := c_lcl i_234_32 rfl rfl
theorem q_234_33 : XX d 234 33 [v0, v1, v2, v3, v4, some (.int z), v6, v7] (.int x :: st) A Q ↔ XX d 234 35 [v0, v1, v2, v3, v4, some (.int z), some (.int x), v7] st A Q := c_lcl i_234_33 rfl rfl
theorem q_234_35 : XX d 234 35 [v0, v1, v2, v3, v4, v5, some (.int x), v7] st A Q ↔ XX d 234 37 [v0, v1, v2, v3, v4, v5, some (.int x), v7] (.int x :: st) A Q := c_lcl i_234_35 rfl rfl
theorem q_234_37 : XX d 234 37 [v0, v1, some (.int x), v3, v4, v5, v6, v7] st A Q ↔ XX d 234 38 [v0, v1, some (.int x), v3, v4, v5, v6, v7] (.int x :: st) A Q := c_lcl i_234_37 rfl rfl
theorem q_234_38 : XX d 234 38 [v0, v1, v2, v3, v4, v5, v6, v7] (.int y :: .int x :: st) A Q ↔ if x < y then XX d 234 41 [v0, v1, v2, v3, v4, v5, v6, v7] st A Q else XX d 234 130 [v0, v1, v2, v3, v4, v5, v6, v7] st A Q := b_ge i_234_38 rfl rfl rfl
theorem q_234_41 : XX d 234 41 [v0, v1, v2, v3, v4, some (.int x), v6, v7] st A Q ↔ XX d 234 43 [v0, v1, v2, v3, v4, some (.int x), v6, v7] (.int x :: st) A Q := c_lcl i_234_41 rfl rfl
theorem q_234_43 : XX d 234 43 [v0, v1, some (.int x), v3, v4, v5, v6, v7] st A Q ↔ XX d 234 44 [v0, v1, some (.int x), v3, v4, v5, v6, v7] (.int x :: st) A Q := c_lcl i_234_43 rfl rfl
theorem q_234_44 : XX d 234 44 [v0, v1, v2, v3, v4, v5, v6, v7] (.int y :: .int x :: st) A Q ↔ if x = y then XX d 234 74 [v0, v1, v2, v3, v4, v5, v6, v7] st A Q else XX d 234 47 [v0, v1, v2, v3, v4, v5, v6, v7] st A Q := b_eq i_234_44 rfl rfl rfl
theorem q_234_47 : XX d 234 47 [v0, v1, v2, v3, some (.int x), v5, v6, v7] st A Q ↔ XX d 234 49 [v0, v1, v2, v3, some (.int x), v5, v6, v7] (.int x :: st) A Q := c_lcl i_234_47 rfl rfl
theorem q_234_49 : XX d 234 49 [v0, v1, v2, some (.int x), v4, v5, v6, v7] st A Q ↔ XX d 234 50 [v0, v1, v2, some (.int x), v4, v5, v6, v7] (.int x :: st) A Q := c_lcl i_234_49 rfl rfl
theorem q_234_50 : XX d 234 50 [v0, v1, v2, v3, v4, v5, v6, v7] (.int y :: .int x :: st) A Q ↔ if x < y then XX d 234 53 [v0, v1, v2, v3, v4, v5, v6, v7] st A Q else XX d 234 78 [v0, v1, v2, v3, v4, v5, v6, v7] st A Q := b_ge i_234_50 rfl rfl rfl
theorem q_234_53 : XX d 234 53 [some (.ref a), v1, v2, v3, v4, v5, v6, v7] st A Q ↔ XX d 234 54 [some (.ref a), v1, v2, v3, v4, v5, v6, v7] (.ref a :: st) A Q := c_lcl i_234_53 rfl rfl
theorem q_234_54 : XX d 234 54 [some (.ref a), v1, v2, v3, v4, v5, v6, v7] st A Q ↔ XX d 234 55 [some (.ref a), v1, v2, v3, v4, v5, v6, v7] (.ref a :: st) A Q := c_lcl i_234_54 rfl rfl
theorem q_234_55 : XX d 234 55 [v0, v1, v2, v3, v4, v5, v6, v7] (.ref a :: st) (mk S I L R G) Q ↔ S a = some (.inr 12) ∧ XX d 234 58 [v0, v1, v2, v3, v4, v5, v6, v7] (.ref (a + 6677) :: st) (mk S I L R G) Q := r_gf i_234_55 rfl (by decide) rfl
theorem q_234_58 : XX d 234 58 [v0, v1, v2, v3, some (.int x), v5, v6, v7] st A Q ↔ XX d 234 60 [v0, v1, v2, v3, some (.int x), v5, v6, v7] (.int x :: st) A Q := c_lcl i_234_58 rfl rfl
theorem q_234_60 : XX d 234 60 [v0, v1, v2, v3, v4, v5, v6, v7] (.int x :: .ref a :: st) (mk S I L R G) Q ↔ inA (S a) ok_i x ∧ XX d 234 61 [v0, v1, v2, v3, v4, v5, v6, v7] (.int (I a (ix x)) :: st) (mk S I L R G) Q := r_ia i_234_60
theorem q_234_61 : XX d 234 61 [some (.ref a), v1, v2, v3, v4, v5, v6, v7] st A Q ↔ XX d 234 62 [some (.ref a), v1, v2, v3, v4, v5, v6, v7] (.ref a :: st) A Q := c_lcl i_234_61 rfl rfl
theorem q_234_62 : XX d 234 62 [v0, v1, v2, v3, v4, v5, v6, v7] (.ref a :: st) (mk S I L R G) Q ↔ S a = some (.inr 12) ∧ XX d 234 65 [v0, v1, v2, v3, v4, v5, v6, v7] (.ref (a + 6677) :: st) (mk S I L R G) Q := r_gf i_234_62 rfl (by decide) rfl
theorem q_234_65 : XX d 234 65 [v0, v1, v2, v3, v4, some (.int x), v6, v7] st A Q ↔ XX d 234 67 [v0, v1, v2, v3, v4, some (.int x), v6, v7] (.int x :: st) A Q := c_lcl i_234_65 rfl rfl
theorem q_234_67 : XX d 234 67 [v0, v1, v2, v3, v4, v5, v6, v7] (.int x :: .ref a :: st) (mk S I L R G) Q ↔ inA (S a) ok_i x ∧ XX d 234 68 [v0, v1, v2, v3, v4, v5, v6, v7] (.int (I a (ix x)) :: st) (mk S I L R G) Q := r_ia i_234_67
theorem q_234_68 : XX (d + 1) 234 68 [v0, v1, v2, v3, v4, v5, v6, v7] [.int x2, .int x1, .ref a0] (mk S I L R G) Q ↔ S a0 = some (.inr 12) ∧ XC d 233 [.ref a0, .int x1, .int x2] (mk S I L R G) (XK (d + 1) 234 68 [v0, v1, v2, v3, v4, v5, v6, v7] [] Q) := c_callV i_234_68 rfl rfl rfl rfl (Nat.le_of_ble_eq_true rfl) (Nat.le_of_ble_eq_true rfl) rfl
theorem q_234_71 : XX d 234 71 [v0, v1, v2, v3, v4, v5, v6, v7] (.int x :: st) A Q ↔ if w 0 < x then XX d 234 78 [v0, v1, v2, v3, v4, v5, v6, v7] st A Q else XX d 234 74 [v0, v1, v2, v3, v4, v5, v6, v7] st A Q := z_gt i_234_71 rfl rfl rfl
theorem q_234_74 : XX d 234 74 [v0, v1, v2, v3, v4, v5, v6, v7] st A Q ↔ XX d 234 75 [v0, v1, v2, v3, v4, v5, v6, v7] (.int (w 1) :: st) A Q := c_stk i_234_74 rfl
theorem q_234_75 : XX d 234 75 [v0, v1, v2, v3, v4, v5, v6, v7] st A Q ↔ XX d 234 79 [v0, v1, v2, v3, v4, v5, v6, v7] st A Q := c_go i_234_75 rfl rfl
theorem q_234_78 : XX d 234 78 [v0, v1, v2, v3, v4, v5, v6, v7] st A Q ↔ XX d 234 79 [v0, v1, v2, v3, v4, v5, v6, v7] (.int (w 0) :: st) A Q := c_stk i_234_78 rfl
theorem q_234_79 : XX d 234 79 [v0, v1, v2, v3, v4, v5, some (.int z), v7] (.int x :: st) A Q ↔ XX d 234 81 [v0, v1, v2, v3, v4, v5, some (.int z), some (.int x)] st A Q := c_lcl i_234_79 rfl rfl
theorem q_234_81 : XX d 234 81 [some (.ref a), v1, v2, v3, v4, v5, v6, v7] st A Q ↔ XX d 234 82 [some (.ref a), v1, v2, v3, v4, v5, v6, v7] (.ref a :: st) A Q := c_lcl i_234_81 rfl rfl
theorem q_234_82 : XX d 234 82 [v0, v1, v2, v3, v4, v5, v6, v7] (.ref a :: st) (mk S I L R G) Q ↔ S a = some (.inr 12) ∧ XX d 234 85 [v0, v1, v2, v3, v4, v5, v6, v7] (.ref (a + 6676) :: st) (mk S I L R G) Q := r_gf i_234_82 rfl (by decide) rfl
theorem q_234_85 : XX d 234 85 [v0, v1, v2, v3, v4, v5, some (.int x), v7] st A Q ↔ XX d 234 87 [v0, v1, v2, v3, v4, v5, some (.int x), v7] (.int x :: st) A Q := c_lcl i_234_85 rfl rfl
theorem q_234_87 : XX d 234 87 [v0, v1, v2, v3, v4, v5, v6, some (.int x)] st A Q ↔ XX d 234 89 [v0, v1, v2, v3, v4, v5, v6, some (.int x)] (.int x :: st) A Q := c_lcl i_234_87 rfl rfl
theorem q_234_89 : XX d 234 89 [v0, v1, v2, v3, v4, v5, v6, v7] (.int x :: st) A Q ↔ if x = w 0 then XX d 234 102 [v0, v1, v2, v3, v4, v5, v6, v7] st A Q else XX d 234 92 [v0, v1, v2, v3, v4, v5, v6, v7] st A Q := z_eq i_234_89 rfl rfl rfl
theorem q_234_92 : XX d 234 92 [some (.ref a), v1, v2, v3, v4, v5, v6, v7] st A Q ↔ XX d 234 93 [some (.ref a), v1, v2, v3, v4, v5, v6, v7] (.ref a :: st) A Q := c_lcl i_234_92 rfl rfl
theorem q_234_93 : XX d 234 93 [v0, v1, v2, v3, v4, v5, v6, v7] (.ref a :: st) (mk S I L R G) Q ↔ S a = some (.inr 12) ∧ XX d 234 96 [v0, v1, v2, v3, v4, v5, v6, v7] (.ref (a + 6677) :: st) (mk S I L R G) Q := r_gf i_234_93 rfl (by decide) rfl
theorem q_234_96 : XX d 234 96 [v0, v1, v2, v3, some (.int x), v5, v6, v7] st A Q ↔ XX d 234 98 [v0, v1, v2, v3, some (.int x), v5, v6, v7] (.int x :: st) A Q := c_lcl i_234_96 rfl rfl
theorem q_234_98 : XX d 234 98 [v0, v1, v2, v3, v4, v5, v6, v7] (.int x :: .ref a :: st) (mk S I L R G) Q ↔ inA (S a) ok_i x ∧ XX d 234 99 [v0, v1, v2, v3, v4, v5, v6, v7] (.int (I a (ix x)) :: st) (mk S I L R G) Q := r_ia i_234_98
theorem q_234_99 : XX d 234 99 [v0, v1, v2, v3, v4, v5, v6, v7] st A Q ↔ XX d 234 109 [v0, v1, v2, v3, v4, v5, v6, v7] st A Q := c_go i_234_99 rfl rfl
theorem q_234_102 : XX d 234 102 [some (.ref a), v1, v2, v3, v4, v5, v6, v7] st A Q ↔ XX d 234 103 [some (.ref a), v1, v2, v3, v4, v5, v6, v7] (.ref a :: st) A Q := c_lcl i_234_102 rfl rfl
theorem q_234_103 : XX d 234 103 [v0, v1, v2, v3, v4, v5, v6, v7] (.ref a :: st) (mk S I L R G) Q ↔ S a = some (.inr 12) ∧ XX d 234 106 [v0, v1, v2, v3, v4, v5, v6, v7] (.ref (a + 6677) :: st) (mk S I L R G) Q := r_gf i_234_103 rfl (by decide) rfl
theorem q_234_106 : XX d 234 106 [v0, v1, v2, v3, v4, some (.int x), v6, v7] st A Q ↔ XX d 234 108 [v0, v1, v2, v3, v4, some (.int x), v6, v7] (.int x :: st) A Q := c_lcl i_234_106 rfl rfl
theorem q_234_108 : XX d 234 108 [v0, v1, v2, v3, v4, v5, v6, v7] (.int x :: .ref a :: st) (mk S I L R G) Q ↔ inA (S a) ok_i x ∧ XX d 234 109 [v0, v1, v2, v3, v4, v5, v6, v7] (.int (I a (ix x)) :: st) (mk S I L R G) Q := r_ia i_234_108
theorem q_234_109 : XX d 234 109 [v0, v1, v2, v3, v4, v5, v6, v7] (.int y :: .int x :: .ref a :: st) (mk S I L R G) Q ↔ inA (S a) ok_0 x ∧ XX d 234 110 [v0, v1, v2, v3, v4, v5, v6, v7] st (mk S (wr I a (up (I a) (ix x) y)) L R G) Q := r_ias i_234_109
theorem q_234_110 : XX d 234 110 [v0, v1, v2, v3, v4, v5, v6, some (.int x)] st A Q ↔ XX d 234 112 [v0, v1, v2, v3, v4, v5, v6, some (.int x)] (.int x :: st) A Q := c_lcl i_234_110 rfl rfl
theorem q_234_112 : XX d 234 112 [v0, v1, v2, v3, v4, v5, v6, v7] (.int x :: st) A Q ↔ if x = w 0 then XX d 234 121 [v0, v1, v2, v3, v4, v5, v6, v7] st A Q else XX d 234 115 [v0, v1, v2, v3, v4, v5, v6, v7] st A Q := z_eq i_234_112 rfl rfl rfl
theorem q_234_115 : XX d 234 115 [v0, v1, v2, some (.int z), some (.int x), v5, v6, v7] st A Q ↔ XX d 234 118 [v0, v1, v2, some (.int z), some (.int (x + w 1)), v5, v6, v7] st A Q := c_lcl i_234_115 rfl rfl
theorem q_234_118 : XX d 234 118 [v0, v1, v2, v3, v4, v5, v6, v7] st A Q ↔ XX d 234 124 [v0, v1, v2, v3, v4, v5, v6, v7] st A Q := c_go i_234_118 rfl rfl
theorem q_234_121 : XX d 234 121 [v0, v1, v2, v3, some (.int z), some (.int x), v6, v7] st A Q ↔ XX d 234 124 [v0, v1, v2, v3, some (.int z), some (.int (x + w 1)), v6, v7] st A Q := c_lcl i_234_121 rfl rfl
theorem q_234_124 : XX d 234 124 [v0, v1, v2, v3, v4, some (.int z), some (.int x), v7] st A Q ↔ XX d 234 127 [v0, v1, v2, v3, v4, some (.int z), some (.int (x + w 1)), v7] st A Q := c_lcl i_234_124 rfl rfl
theorem q_234_127 : XX d 234 127 [v0, v1, v2, v3, v4, v5, v6, v7] st A Q ↔ XX d 234 35 [v0, v1, v2, v3, v4, v5, v6, v7] st A Q := c_go i_234_127 rfl rfl
theorem q_234_130 : XX d 234 130 [v0, some (.int x), v2, v3, v4, v5, v6, v7] st A Q ↔ XX d 234 131 [v0, some (.int x), v2, v3, v4, v5, v6, v7] (.int x :: st) A Q := c_lcl i_234_130 rfl rfl
theorem q_234_131 : XX d 234 131 [v0, v1, v2, v3, v4, some (.int z), v6, v7] (.int x :: st) A Q ↔ XX d 234 133 [v0, v1, v2, v3, v4, some (.int z), some (.int x), v7] st A Q := c_lcl i_234_131 rfl rfl
theorem q_234_133 : XX d 234 133 [v0, v1, v2, v3, v4, v5, some (.int x), v7] st A Q ↔ XX d 234 135 [v0, v1, v2, v3, v4, v5, some (.int x), v7] (.int x :: st) A Q := c_lcl i_234_133 rfl rfl
theorem q_234_135 : XX d 234 135 [v0, v1, some (.int x), v3, v4, v5, v6, v7] st A Q ↔ XX d 234 136 [v0, v1, some (.int x), v3, v4, v5, v6, v7] (.int x :: st) A Q := c_lcl i_234_135 rfl rfl
theorem q_234_136 : XX d 234 136 [v0, v1, v2, v3, v4, v5, v6, v7] (.int y :: .int x :: st) A Q ↔ if x < y then XX d 234 139 [v0, v1, v2, v3, v4, v5, v6, v7] st A Q else XX d 234 159 [v0, v1, v2, v3, v4, v5, v6, v7] st A Q := b_ge i_234_136 rfl rfl rfl
theorem q_234_139 : XX d 234 139 [some (.ref a), v1, v2, v3, v4, v5, v6, v7] st A Q ↔ XX d 234 140 [some (.ref a), v1, v2, v3, v4, v5, v6, v7] (.ref a :: st) A Q := c_lcl i_234_139 rfl rfl
theorem q_234_140 : XX d 234 140 [v0, v1, v2, v3, v4, v5, v6, v7] (.ref a :: st) (mk S I L R G) Q ↔ S a = some (.inr 12) ∧ XX d 234 143 [v0, v1, v2, v3, v4, v5, v6, v7] (.ref (a + 6677) :: st) (mk S I L R G) Q := r_gf i_234_140 rfl (by decide) rfl
theorem q_234_143 : XX d 234 143 [v0, v1, v2, v3, v4, v5, some (.int x), v7] st A Q ↔ XX d 234 145 [v0, v1, v2, v3, v4, v5, some (.int x), v7] (.int x :: st) A Q := c_lcl i_234_143 rfl rfl
theorem q_234_145 : XX d 234 145 [some (.ref a), v1, v2, v3, v4, v5, v6, v7] st A Q ↔ XX d 234 146 [some (.ref a), v1, v2, v3, v4, v5, v6, v7] (.ref a :: st) A Q := c_lcl i_234_145 rfl rfl
theorem q_234_146 : XX d 234 146 [v0, v1, v2, v3, v4, v5, v6, v7] (.ref a :: st) (mk S I L R G) Q ↔ S a = some (.inr 12) ∧ XX d 234 149 [v0, v1, v2, v3, v4, v5, v6, v7] (.ref (a + 6676) :: st) (mk S I L R G) Q := r_gf i_234_146 rfl (by decide) rfl
theorem q_234_149 : XX d 234 149 [v0, v1, v2, v3, v4, v5, some (.int x), v7] st A Q ↔ XX d 234 151 [v0, v1, v2, v3, v4, v5, some (.int x), v7] (.int x :: st) A Q := c_lcl i_234_149 rfl rfl
theorem q_234_151 : XX d 234 151 [v0, v1, v2, v3, v4, v5, v6, v7] (.int x :: .ref a :: st) (mk S I L R G) Q ↔ inA (S a) ok_i x ∧ XX d 234 152 [v0, v1, v2, v3, v4, v5, v6, v7] (.int (I a (ix x)) :: st) (mk S I L R G) Q := r_ia i_234_151
theorem q_234_152 : XX d 234 152 [v0, v1, v2, v3, v4, v5, v6, v7] (.int y :: .int x :: .ref a :: st) (mk S I L R G) Q ↔ inA (S a) ok_0 x ∧ XX d 234 153 [v0, v1, v2, v3, v4, v5, v6, v7] st (mk S (wr I a (up (I a) (ix x) y)) L R G) Q := r_ias i_234_152
theorem q_234_153 : XX d 234 153 [v0, v1, v2, v3, v4, some (.int z), some (.int x), v7] st A Q ↔ XX d 234 156 [v0, v1, v2, v3, v4, some (.int z), some (.int (x + w 1)), v7] st A Q := c_lcl i_234_153 rfl rfl
theorem q_234_156 : XX d 234 156 [v0, v1, v2, v3, v4, v5, v6, v7] st A Q ↔ XX d 234 133 [v0, v1, v2, v3, v4, v5, v6, v7] st A Q := c_go i_234_156 rfl rfl
theorem q_234_159 : XX d 234 159 [v0, v1, v2, v3, v4, v5, v6, v7] [] A Q ↔ Q (.inl none) A := e_retN i_234_159 rfl
theorem q_234_e : XC d 234 [.ref a0, .int x1, .int x2] A Q ↔ XX d 234 0 [some (.ref a0), some (.int x1), some (.int x2), none, none, none, none, none] [] A Q := Iff.rfl
theorem i_235_0 : t_ins 235 0 = some (.aload_n 0) := by decide +kernel
theorem i_235_1 : t_ins 235 1 = some (.iconst 0) := by decide +kernel
theorem i_235_2 : t_ins 235 2 = some (.putfield 379) := by decide +kernel
theorem i_235_5 : t_ins 235 5 = some (.iconst 0) := by decide +kernel
theorem i_235_6 : t_ins 235 6 = some (.istore_n 1) := by decide +kernel
theorem i_235_7 : t_ins 235 7 = some (.iload_n 1) := by decide +kernel
theorem i_235_8 : t_ins 235 8 = some (.aload_n 0) := by decide +kernel
theorem i_235_9 : t_ins 235 9 = some (.getfield 36) := by decide +kernel
theorem i_235_12 : t_ins 235 12 = some (.if_icmp .gt 125) := by decide +kernel
theorem i_235_15 : t_ins 235 15 = some (.iconst 0) := by decide +kernel
theorem i_235_16 : t_ins 235 16 = some (.istore_n 2) := by decide +kernel
theorem i_235_17 : t_ins 235 17 = some (.iload_n 2) := by decide +kernel
theorem i_235_18 : t_ins 235 18 = some (.aload_n 0) := by decide +kernel
theorem i_235_19 : t_ins 235 19 = some (.getfield 61) := by decide +kernel
theorem i_235_22 : t_ins 235 22 = some (.iload_n 1) := by decide +kernel
theorem i_235_23 : t_ins 235 23 = some (.iaload) := by decide +kernel
theorem i_235_24 : t_ins 235 24 = some (.if_icmp .ge 107) := by decide +kernel
theorem i_235_27 : t_ins 235 27 = some (.aload_n 0) := by decide +kernel
theorem i_235_28 : t_ins 235 28 = some (.getfield 58) := by decide +kernel
theorem i_235_31 : t_ins 235 31 = some (.iload_n 1) := by decide +kernel
theorem i_235_32 : t_ins 235 32 = some (.iaload) := by decide +kernel
theorem i_235_33 : t_ins 235 33 = some (.iload_n 2) := by decide +kernel
theorem i_235_34 : t_ins 235 34 = some (.iadd) := by decide +kernel
theorem i_235_35 : t_ins 235 35 = some (.istore_n 3) := by decide +kernel
theorem i_235_36 : t_ins 235 36 = some (.aload_n 0) := by decide +kernel
theorem i_235_37 : t_ins 235 37 = some (.getfield 55) := by decide +kernel
theorem i_235_40 : t_ins 235 40 = some (.iload_n 3) := by decide +kernel
theorem i_235_41 : t_ins 235 41 = some (.baload) := by decide +kernel
theorem i_235_42 : t_ins 235 42 = some (.bipush 32) := by decide +kernel
theorem i_235_44 : t_ins 235 44 = some (.if_icmp .ne 6) := by decide +kernel
theorem i_235_47 : t_ins 235 47 = some (.goto 78) := by decide +kernel
theorem i_235_50 : t_ins 235 50 = some (.iload_n 2) := by decide +kernel
theorem i_235_51 : t_ins 235 51 = some (.ifCond .eq 16) := by decide +kernel
theorem i_235_54 : t_ins 235 54 = some (.aload_n 0) := by decide +kernel
theorem i_235_55 : t_ins 235 55 = some (.getfield 55) := by decide +kernel
theorem i_235_58 : t_ins 235 58 = some (.iload_n 3) := by decide +kernel
theorem i_235_59 : t_ins 235 59 = some (.iconst 1) := by decide +kernel
theorem i_235_60 : t_ins 235 60 = some (.isub) := by decide +kernel
theorem i_235_61 : t_ins 235 61 = some (.baload) := by decide +kernel
theorem i_235_62 : t_ins 235 62 = some (.bipush 32) := by decide +kernel
theorem i_235_64 : t_ins 235 64 = some (.if_icmp .ne 46) := by decide +kernel
theorem i_235_67 : t_ins 235 67 = some (.aload_n 0) := by decide +kernel
theorem i_235_68 : t_ins 235 68 = some (.getfield 109) := by decide +kernel
theorem i_235_71 : t_ins 235 71 = some (.aload_n 0) := by decide +kernel
theorem i_235_72 : t_ins 235 72 = some (.getfield 379) := by decide +kernel
theorem i_235_75 : t_ins 235 75 = some (.iload_n 3) := by decide +kernel
theorem i_235_76 : t_ins 235 76 = some (.iastore) := by decide +kernel
theorem i_235_77 : t_ins 235 77 = some (.aload_n 0) := by decide +kernel
theorem i_235_78 : t_ins 235 78 = some (.getfield 112) := by decide +kernel
theorem i_235_81 : t_ins 235 81 = some (.aload_n 0) := by decide +kernel
theorem i_235_82 : t_ins 235 82 = some (.getfield 379) := by decide +kernel
theorem i_235_85 : t_ins 235 85 = some (.iconst 0) := by decide +kernel
theorem i_235_86 : t_ins 235 86 = some (.iastore) := by decide +kernel
theorem i_235_87 : t_ins 235 87 = some (.aload_n 0) := by decide +kernel
theorem i_235_88 : t_ins 235 88 = some (.getfield 118) := by decide +kernel
theorem i_235_91 : t_ins 235 91 = some (.aload_n 0) := by decide +kernel
theorem i_235_92 : t_ins 235 92 = some (.getfield 379) := by decide +kernel
theorem i_235_95 : t_ins 235 95 = some (.aload_n 0) := by decide +kernel
theorem i_235_96 : t_ins 235 96 = some (.getfield 379) := by decide +kernel
theorem i_235_99 : t_ins 235 99 = some (.iastore) := by decide +kernel
theorem i_235_100 : t_ins 235 100 = some (.aload_n 0) := by decide +kernel
theorem i_235_101 : t_ins 235 101 = some (.dup) := by decide +kernel
theorem i_235_102 : t_ins 235 102 = some (.getfield 379) := by decide +kernel
theorem i_235_105 : t_ins 235 105 = some (.iconst 1) := by decide +kernel
theorem i_235_106 : t_ins 235 106 = some (.iadd) := by decide +kernel
theorem i_235_107 : t_ins 235 107 = some (.putfield 379) := by decide +kernel
theorem i_235_110 : t_ins 235 110 = some (.aload_n 0) := by decide +kernel
theorem i_235_111 : t_ins 235 111 = some (.getfield 112) := by decide +kernel
theorem i_235_114 : t_ins 235 114 = some (.aload_n 0) := by decide +kernel
theorem i_235_115 : t_ins 235 115 = some (.getfield 379) := by decide +kernel
theorem i_235_118 : t_ins 235 118 = some (.iconst 1) := by decide +kernel
theorem i_235_119 : t_ins 235 119 = some (.isub) := by decide +kernel
theorem i_235_120 : t_ins 235 120 = some (.dup2) := by decide +kernel
theorem i_235_121 : t_ins 235 121 = some (.iaload) := by decide +kernel
theorem i_235_122 : t_ins 235 122 = some (.iconst 1) := by decide +kernel
theorem i_235_123 : t_ins 235 123 = some (.iadd) := by decide +kernel
theorem i_235_124 : t_ins 235 124 = some (.iastore) := by decide +kernel
theorem i_235_125 : t_ins 235 125 = some (.iinc 2 1) := by decide +kernel
theorem i_235_128 : t_ins 235 128 = some (.goto (-111)) := by decide +kernel
theorem i_235_131 : t_ins 235 131 = some (.iinc 1 1) := by decide +kernel
theorem i_235_134 : t_ins 235 134 = some (.goto (-127)) := by decide +kernel
theorem i_235_137 : t_ins 235 137 = some (.aload_n 0) := by decide +kernel
theorem i_235_138 : t_ins 235 138 = some (.iconst 0) := by decide +kernel
theorem i_235_139 : t_ins 235 139 = some (.aload_n 0) := by decide +kernel
theorem i_235_140 : t_ins 235 140 = some (.getfield 379) := by decide +kernel
theorem i_235_143 : t_ins 235 143 = some (.invokevirtual 373) := by decide +kernel
theorem i_235_146 : t_ins 235 146 = some (.return_) := by decide +kernel
theorem q_235_0 : XX d 235 0 [some (.ref a), v1, v2, v3] st A Q ↔ XX d 235 1 [some (.ref a), v1, v2, v3] (.ref a :: st) A Q := c_lcl i_235_0 rfl rfl
theorem q_235_1 : XX d 235 1 [v0, v1, v2, v3] st A Q ↔ XX d 235 2 [v0, v1, v2, v3] (.int (w 0) :: st) A Q := c_stk i_235_1 rfl
theorem q_235_2 : XX d 235 2 [v0, v1, v2, v3] (.int x :: .ref a :: st) (mk S I L R G) Q ↔ S a = some (.inr 12) ∧ XX d 235 5 [v0, v1, v2, v3] st (mk S (wr I a (up (I a) 49 x)) L R G) Q := r_pf i_235_2 rfl (by decide) rfl rfl rfl
theorem q_235_5 : XX d 235 5 [v0, v1, v2, v3] st A Q ↔ XX d 235 6 [v0, v1, v2, v3] (.int (w 0) :: st) A Q := c_stk i_235_5 rfl
theorem q_235_6 : XX d 235 6 [some (.ref b), v1, v2, v3] (.int x :: st) A Q ↔ XX d 235 7 [some (.ref b), some (.int x), v2, v3] st A Q := c_lcl i_235_6 rfl rfl
theorem q_235_7 : XX d 235 7 [v0, some (.int x), v2, v3] st A Q ↔ XX d 235 8 [v0, some (.int x), v2, v3] (.int x :: st) A Q := c_lcl i_235_7 rfl rfl
theorem q_235_8 : XX d 235 8 [some (.ref a), v1, v2, v3] st A Q ↔ XX d 235 9 [some (.ref a), v1, v2, v3] (.ref a :: st) A Q := c_lcl i_235_8 rfl rfl
theorem q_235_9 : XX d 235 9 [v0, v1, v2, v3] (.ref a :: st) (mk S I L R G) Q ↔ S a = some (.inr 12) ∧ XX d 235 12 [v0, v1, v2, v3] (.int (I a 13) :: st) (mk S I L R G) Q := r_gf i_235_9 rfl (by decide) rfl
theorem q_235_12 : XX d 235 12 [v0, v1, v2, v3] (.int y :: .int x :: st) A Q ↔ if y < x then XX d 235 137 [v0, v1, v2, v3] st A Q else XX d 235 15 [v0, v1, v2, v3] st A Q := b_gt i_235_12 rfl rfl rfl
theorem q_235_15 : XX d 235 15 [v0, v1, v2, v3] st A Q ↔ XX d 235 16 [v0, v1, v2, v3] (.int (w 0) :: st) A Q := c_stk i_235_15 rfl
theorem q_235_16 : XX d 235 16 [v0, some (.int z), v2, v3] (.int x :: st) A Q ↔ XX d 235 17 [v0, some (.int z), some (.int x), v3] st A Q := c_lcl i_235_16 rfl rfl
theorem q_235_17 : XX d 235 17 [v0, v1, some (.int x), v3] st A Q ↔ XX d 235 18 [v0, v1, some (.int x), v3] (.int x :: st) A Q := c_lcl i_235_17 rfl rfl
theorem q_235_18 : XX d 235 18 [some (.ref a), v1, v2, v3] st A Q ↔ XX d 235 19 [some (.ref a), v1, v2, v3] (.ref a :: st) A Q := c_lcl i_235_18 rfl rfl
theorem q_235_19 : XX d 235 19 [v0, v1, v2, v3] (.ref a :: st) (mk S I L R G) Q ↔ S a = some (.inr 12) ∧ XX d 235 22 [v0, v1, v2, v3] (.ref (a + 6579) :: st) (mk S I L R G) Q := r_gf i_235_19 rfl (by decide) rfl
theorem q_235_22 : XX d 235 22 [v0, some (.int x), v2, v3] st A Q ↔ XX d 235 23 [v0, some (.int x), v2, v3] (.int x :: st) A Q := c_lcl i_235_22 rfl rfl
theorem q_235_23 : XX d 235 23 [v0, v1, v2, v3] (.int x :: .ref a :: st) (mk S I L R G) Q ↔ inA (S a) ok_i x ∧ XX d 235 24 [v0, v1, v2, v3] (.int (I a (ix x)) :: st) (mk S I L R G) Q := r_ia i_235_23
theorem q_235_24 : XX d 235 24 [v0, v1, v2, v3] (.int y :: .int x :: st) A Q ↔ if x < y then XX d 235 27 [v0, v1, v2, v3] st A Q else XX d 235 131 [v0, v1, v2, v3] st A Q := b_ge i_235_24 rfl rfl rfl
theorem q_235_27 : XX d 235 27 [some (.ref a), v1, v2, v3] st A Q ↔ XX d 235 28 [some (.ref a), v1, v2, v3] (.ref a :: st) A Q := c_lcl i_235_27 rfl rfl
theorem q_235_28 : XX d 235 28 [v0, v1, v2, v3] (.ref a :: st) (mk S I L R G) Q ↔ S a = some (.inr 12) ∧ XX d 235 31 [v0, v1, v2, v3] (.ref (a + 6578) :: st) (mk S I L R G) Q := r_gf i_235_28 rfl (by decide) rfl
theorem q_235_31 : XX d 235 31 [v0, some (.int x), v2, v3] st A Q ↔ XX d 235 32 [v0, some (.int x), v2, v3] (.int x :: st) A Q := c_lcl i_235_31 rfl rfl
theorem q_235_32 : XX d 235 32 [v0, v1, v2, v3] (.int x :: .ref a :: st) (mk S I L R G) Q ↔ inA (S a) ok_i x ∧ XX d 235 33 [v0, v1, v2, v3] (.int (I a (ix x)) :: st) (mk S I L R G) Q := r_ia i_235_32
theorem q_235_33 : XX d 235 33 [v0, v1, some (.int x), v3] st A Q ↔ XX d 235 34 [v0, v1, some (.int x), v3] (.int x :: st) A Q := c_lcl i_235_33 rfl rfl
theorem q_235_34 : XX d 235 34 [v0, v1, v2, v3] (.int y :: .int x :: st) A Q ↔ XX d 235 35 [v0, v1, v2, v3] (.int (x + y) :: st) A Q := c_stk i_235_34 rfl
theorem q_235_35 : XX d 235 35 [v0, v1, some (.int z), v3] (.int x :: st) A Q ↔ XX d 235 36 [v0, v1, some (.int z), some (.int x)] st A Q := c_lcl i_235_35 rfl rfl
theorem q_235_36 : XX d 235 36 [some (.ref a), v1, v2, v3] st A Q ↔ XX d 235 37 [some (.ref a), v1, v2, v3] (.ref a :: st) A Q := c_lcl i_235_36 rfl rfl
theorem q_235_37 : XX d 235 37 [v0, v1, v2, v3] (.ref a :: st) (mk S I L R G) Q ↔ S a = some (.inr 12) ∧ XX d 235 40 [v0, v1, v2, v3] (.ref (a + 6577) :: st) (mk S I L R G) Q := r_gf i_235_37 rfl (by decide) rfl
theorem q_235_40 : XX d 235 40 [v0, v1, v2, some (.int x)] st A Q ↔ XX d 235 41 [v0, v1, v2, some (.int x)] (.int x :: st) A Q := c_lcl i_235_40 rfl rfl
theorem q_235_41 : XX d 235 41 [v0, v1, v2, v3] (.int x :: .ref a :: st) (mk S I L R G) Q ↔ inA (S a) ok_b x ∧ XX d 235 42 [v0, v1, v2, v3] (.int (I a (ix x)) :: st) (mk S I L R G) Q := r_ba i_235_41
theorem q_235_42 : XX d 235 42 [v0, v1, v2, v3] st A Q ↔ XX d 235 44 [v0, v1, v2, v3] (.int (w 32) :: st) A Q := c_stk i_235_42 rfl
theorem q_235_44 : XX d 235 44 [v0, v1, v2, v3] (.int y :: .int x :: st) A Q ↔ if x = y then XX d 235 47 [v0, v1, v2, v3] st A Q else XX d 235 50 [v0, v1, v2, v3] st A Q := b_ne i_235_44 rfl rfl rfl
theorem q_235_47 : XX d 235 47 [v0, v1, v2, v3] st A Q ↔ XX d 235 125 [v0, v1, v2, v3] st A Q := c_go i_235_47 rfl rfl
theorem q_235_50 : XX d 235 50 [v0, v1, some (.int x), v3] st A Q ↔ XX d 235 51 [v0, v1, some (.int x), v3] (.int x :: st) A Q := c_lcl i_235_50 rfl rfl
theorem q_235_51 : XX d 235 51 [v0, v1, v2, v3] (.int x :: st) A Q ↔ if x = w 0 then XX d 235 67 [v0, v1, v2, v3] st A Q else XX d 235 54 [v0, v1, v2, v3] st A Q := z_eq i_235_51 rfl rfl rfl
theorem q_235_54 : XX d 235 54 [some (.ref a), v1, v2, v3] st A Q ↔ XX d 235 55 [some (.ref a), v1, v2, v3] (.ref a :: st) A Q := c_lcl i_235_54 rfl rfl
theorem q_235_55 : XX d 235 55 [v0, v1, v2, v3] (.ref a :: st) (mk S I L R G) Q ↔ S a = some (.inr 12) ∧ XX d 235 58 [v0, v1, v2, v3] (.ref (a + 6577) :: st) (mk S I L R G) Q := r_gf i_235_55 rfl (by decide) rfl
theorem q_235_58 : XX d 235 58 [v0, v1, v2, some (.int x)] st A Q ↔ XX d 235 59 [v0, v1, v2, some (.int x)] (.int x :: st) A Q := c_lcl i_235_58 rfl rfl
theorem q_235_59 : XX d 235 59 [v0, v1, v2, v3] st A Q ↔ XX d 235 60 [v0, v1, v2, v3] (.int (w 1) :: st) A Q := c_stk i_235_59 rfl
theorem q_235_60 : XX d 235 60 [v0, v1, v2, v3] (.int y :: .int x :: st) A Q ↔ XX d 235 61 [v0, v1, v2, v3] (.int (x - y) :: st) A Q := c_stk i_235_60 rfl
theorem q_235_61 : XX d 235 61 [v0, v1, v2, v3] (.int x :: .ref a :: st) (mk S I L R G) Q ↔ inA (S a) ok_b x ∧ XX d 235 62 [v0, v1, v2, v3] (.int (I a (ix x)) :: st) (mk S I L R G) Q := r_ba i_235_61
theorem q_235_62 : XX d 235 62 [v0, v1, v2, v3] st A Q ↔ XX d 235 64 [v0, v1, v2, v3] (.int (w 32) :: st) A Q := c_stk i_235_62 rfl
theorem q_235_64 : XX d 235 64 [v0, v1, v2, v3] (.int y :: .int x :: st) A Q ↔ if x = y then XX d 235 67 [v0, v1, v2, v3] st A Q else XX d 235 110 [v0, v1, v2, v3] st A Q := b_ne i_235_64 rfl rfl rfl
theorem q_235_67 : XX d 235 67 [some (.ref a), v1, v2, v3] st A Q ↔ XX d 235 68 [some (.ref a), v1, v2, v3] (.ref a :: st) A Q := c_lcl i_235_67 rfl rfl
theorem q_235_68 : XX d 235 68 [v0, v1, v2, v3] (.ref a :: st) (mk S I L R G) Q ↔ S a = some (.inr 12) ∧ XX d 235 71 [v0, v1, v2, v3] (.ref (a + 6674) :: st) (mk S I L R G) Q := r_gf i_235_68 rfl (by decide) rfl
theorem q_235_71 : XX d 235 71 [some (.ref a), v1, v2, v3] st A Q ↔ XX d 235 72 [some (.ref a), v1, v2, v3] (.ref a :: st) A Q := c_lcl i_235_71 rfl rfl
theorem q_235_72 : XX d 235 72 [v0, v1, v2, v3] (.ref a :: st) (mk S I L R G) Q ↔ S a = some (.inr 12) ∧ XX d 235 75 [v0, v1, v2, v3] (.int (I a 49) :: st) (mk S I L R G) Q := r_gf i_235_72 rfl (by decide) rfl
theorem q_235_75 : XX d 235 75 [v0, v1, v2, some (.int x)] st A Q ↔ XX d 235 76 [v0, v1, v2, some (.int x)] (.int x :: st) A Q := c_lcl i_235_75 rfl rfl
theorem q_235_76 : XX d 235 76 [v0, v1, v2, v3] (.int y :: .int x :: .ref a :: st) (mk S I L R G) Q ↔ inA (S a) ok_0 x ∧ XX d 235 77 [v0, v1, v2, v3] st (mk S (wr I a (up (I a) (ix x) y)) L R G) Q := r_ias i_235_76
theorem q_235_77 : XX d 235 77 [some (.ref a), v1, v2, v3] st A Q ↔ XX d 235 78 [some (.ref a), v1, v2, v3] (.ref a :: st) A Q := c_lcl i_235_77 rfl rfl
theorem q_235_78 : XX d 235 78 [v0, v1, v2, v3] (.ref a :: st) (mk S I L R G) Q ↔ S a = some (.inr 12) ∧ XX d 235 81 [v0, v1, v2, v3] (.ref (a + 6675) :: st) (mk S I L R G) Q := r_gf i_235_78 rfl (by decide) rfl
theorem q_235_81 : XX d 235 81 [some (.ref a), v1, v2, v3] st A Q ↔ XX d 235 82 [some (.ref a), v1, v2, v3] (.ref a :: st) A Q := c_lcl i_235_81 rfl rfl
theorem q_235_82 : XX d 235 82 [v0, v1, v2, v3] (.ref a :: st) (mk S I L R G) Q ↔ S a = some (.inr 12) ∧ XX d 235 85 [v0, v1, v2, v3] (.int (I a 49) :: st) (mk S I L R G) Q := r_gf i_235_82 rfl (by decide) rfl
theorem q_235_85 : XX d 235 85 [v0, v1, v2, v3] st A Q ↔ XX d 235 86 [v0, v1, v2, v3] (.int (w 0) :: st) A Q := c_stk i_235_85 rfl
theorem q_235_86 : XX d 235 86 [v0, v1, v2, v3] (.int y :: .int x :: .ref a :: st) (mk S I L R G) Q ↔ inA (S a) ok_0 x ∧ XX d 235 87 [v0, v1, v2, v3] st (mk S (wr I a (up (I a) (ix x) y)) L R G) Q := r_ias i_235_86
theorem q_235_87 : XX d 235 87 [some (.ref a), v1, v2, v3] st A Q ↔ XX d 235 88 [some (.ref a), v1, v2, v3] (.ref a :: st) A Q := c_lcl i_235_87 rfl rfl
theorem q_235_88 : XX d 235 88 [v0, v1, v2, v3] (.ref a :: st) (mk S I L R G) Q ↔ S a = some (.inr 12) ∧ XX d 235 91 [v0, v1, v2, v3] (.ref (a + 6677) :: st) (mk S I L R G) Q := r_gf i_235_88 rfl (by decide) rfl
theorem q_235_91 : XX d 235 91 [some (.ref a), v1, v2, v3] st A Q ↔ XX d 235 92 [some (.ref a), v1, v2, v3] (.ref a :: st) A Q := c_lcl i_235_91 rfl rfl
theorem q_235_92 : XX d 235 92 [v0, v1, v2, v3] (.ref a :: st) (mk S I L R G) Q ↔ S a = some (.inr 12) ∧ XX d 235 95 [v0, v1, v2, v3] (.int (I a 49) :: st) (mk S I L R G) Q := r_gf i_235_92 rfl (by decide) rfl
theorem q_235_95 : XX d 235 95 [some (.ref a), v1, v2, v3] st A Q ↔ XX d 235 96 [some (.ref a), v1, v2, v3] (.ref a :: st) A Q := c_lcl i_235_95 rfl rfl
theorem q_235_96 : XX d 235 96 [v0, v1, v2, v3] (.ref a :: st) (mk S I L R G) Q ↔ S a = some (.inr 12) ∧ XX d 235 99 [v0, v1, v2, v3] (.int (I a 49) :: st) (mk S I L R G) Q := r_gf i_235_96 rfl (by decide) rfl
theorem q_235_99 : XX d 235 99 [v0, v1, v2, v3] (.int y :: .int x :: .ref a :: st) (mk S I L R G) Q ↔ inA (S a) ok_0 x ∧ XX d 235 100 [v0, v1, v2, v3] st (mk S (wr I a (up (I a) (ix x) y)) L R G) Q := r_ias i_235_99
theorem q_235_100 : XX d 235 100 [some (.ref a), v1, v2, v3] st A Q ↔ XX d 235 101 [some (.ref a), v1, v2, v3] (.ref a :: st) A Q := c_lcl i_235_100 rfl rfl
theorem q_235_101 : XX d 235 101 [v0, v1, v2, v3] (.ref a1 :: st) A Q ↔ XX d 235 102 [v0, v1, v2, v3] (.ref a1 :: .ref a1 :: st) A Q := c_stk i_235_101 rfl
theorem q_235_102 : XX d 235 102 [v0, v1, v2, v3] (.ref a :: st) (mk S I L R G) Q ↔ S a = some (.inr 12) ∧ XX d 235 105 [v0, v1, v2, v3] (.int (I a 49) :: st) (mk S I L R G) Q := r_gf i_235_102 rfl (by decide) rfl
theorem q_235_105 : XX d 235 105 [v0, v1, v2, v3] st A Q ↔ XX d 235 106 [v0, v1, v2, v3] (.int (w 1) :: st) A Q := c_stk i_235_105 rfl
theorem q_235_106 : XX d 235 106 [v0, v1, v2, v3] (.int y :: .int x :: st) A Q ↔ XX d 235 107 [v0, v1, v2, v3] (.int (x + y) :: st) A Q := c_stk i_235_106 rfl
theorem q_235_107 : XX d 235 107 [v0, v1, v2, v3] (.int x :: .ref a :: st) (mk S I L R G) Q ↔ S a = some (.inr 12) ∧ XX d 235 110 [v0, v1, v2, v3] st (mk S (wr I a (up (I a) 49 x)) L R G) Q := r_pf i_235_107 rfl (by decide) rfl rfl rfl
theorem q_235_110 : XX d 235 110 [some (.ref a), v1, v2, v3] st A Q ↔ XX d 235 111 [some (.ref a), v1, v2, v3] (.ref a :: st) A Q := c_lcl i_235_110 rfl rfl
theorem q_235_111 : XX d 235 111 [v0, v1, v2, v3] (.ref a :: st) (mk S I L R G) Q ↔ S a = some (.inr 12) ∧ XX d 235 114 [v0, v1, v2, v3] (.ref (a + 6675) :: st) (mk S I L R G) Q := r_gf i_235_111 rfl (by decide) rfl
theorem q_235_114 : XX d 235 114 [some (.ref a), v1, v2, v3] st A Q ↔ XX d 235 115 [some (.ref a), v1, v2, v3] (.ref a :: st) A Q := c_lcl i_235_114 rfl rfl
theorem q_235_115 : XX d 235 115 [v0, v1, v2, v3] (.ref a :: st) (mk S I L R G) Q ↔ S a = some (.inr 12) ∧ XX d 235 118 [v0, v1, v2, v3] (.int (I a 49) :: st) (mk S I L R G) Q := r_gf i_235_115 rfl (by decide) rfl
theorem q_235_118 : XX d 235 118 [v0, v1, v2, v3] st A Q ↔ XX d 235 119 [v0, v1, v2, v3] (.int (w 1) :: st) A Q := c_stk i_235_118 rfl
theorem q_235_119 : XX d 235 119 [v0, v1, v2, v3] (.int y :: .int x :: st) A Q ↔ XX d 235 120 [v0, v1, v2, v3] (.int (x - y) :: st) A Q := c_stk i_235_119 rfl
theorem q_235_120 : XX d 235 120 [v0, v1, v2, v3] (.int x1 :: .ref a2 :: st) A Q ↔ XX d 235 121 [v0, v1, v2, v3] (.int x1 :: .ref a2 :: .int x1 :: .ref a2 :: st) A Q := c_stk i_235_120 rfl
theorem q_235_121 : XX d 235 121 [v0, v1, v2, v3] (.int x :: .ref a :: st) (mk S I L R G) Q ↔ inA (S a) ok_i x ∧ XX d 235 122 [v0, v1, v2, v3] (.int (I a (ix x)) :: st) (mk S I L R G) Q := r_ia i_235_121
theorem q_235_122 : XX d 235 122 [v0, v1, v2, v3] st A Q ↔ XX d 235 123 [v0, v1, v2, v3] (.int (w 1) :: st) A Q := c_stk i_235_122 rfl
theorem q_235_123 : XX d 235 123 [v0, v1, v2, v3] (.int y :: .int x :: st) A Q ↔ XX d 235 124 [v0, v1, v2, v3] (.int (x + y) :: st) A Q := c_stk i_235_123 rfl
theorem q_235_124 : XX d 235 124 [v0, v1, v2, v3] (.int y :: .int x :: .ref a :: st) (mk S I L R G) Q ↔ inA (S a) ok_0 x ∧ XX d 235 125 [v0, v1, v2, v3] st (mk S (wr I a (up (I a) (ix x) y)) L R G) Q := r_ias i_235_124
theorem q_235_125 : XX d 235 125 [v0, some (.int z), some (.int x), v3] st A Q ↔ XX d 235 128 [v0, some (.int z), some (.int (x + w 1)), v3] st A Q := c_lcl i_235_125 rfl rfl
theorem q_235_128 : XX d 235 128 [v0, v1, v2, v3] st A Q ↔ XX d 235 17 [v0, v1, v2, v3] st A Q := c_go i_235_128 rfl rfl
theorem q_235_131 : XX d 235 131 [some (.ref b), some (.int x), v2, v3] st A Q ↔ XX d 235 134 [some (.ref b), some (.int (x + w 1)), v2, v3] st A Q := c_lcl i_235_131 rfl rfl
theorem q_235_134 : XX d 235 134 [v0, v1, v2, v3] st A Q ↔ XX d 235 7 [v0, v1, v2, v3] st A Q := c_go i_235_134 rfl rfl
theorem q_235_137 : XX d 235 137 [some (.ref a), v1, v2, v3] st A Q ↔ XX d 235 138 [some (.ref a), v1, v2, v3] (.ref a :: st) A Q := c_lcl i_235_137 rfl rfl
theorem q_235_138 : XX d 235 138 [v0, v1, v2, v3] st A Q ↔ XX d 235 139 [v0, v1, v2, v3] (.int (w 0) :: st) A Q := c_stk i_235_138 rfl
theorem q_235_139 : XX d 235 139 [some (.ref a), v1, v2, v3] st A Q ↔ XX d 235 140 [some (.ref a), v1, v2, v3] (.ref a :: st) A Q := c_lcl i_235_139 rfl rfl
theorem q_235_140 : XX d 235 140 [v0, v1, v2, v3] (.ref a :: st) (mk S I L R G) Q ↔ S a = some (.inr 12) ∧ XX d 235 143 [v0, v1, v2, v3] (.int (I a 49) :: st) (mk S I L R G) Q := r_gf i_235_140 rfl (by decide) rfl
theorem q_235_143 : XX (d + 1) 235 143 [v0, v1, v2, v3] [.int x2, .int x1, .ref a0] (mk S I L R G) Q ↔ S a0 = some (.inr 12) ∧ XC d 234 [.ref a0, .int x1, .int x2] (mk S I L R G) (XK (d + 1) 235 143 [v0, v1, v2, v3] [] Q) := c_callV i_235_143 rfl rfl rfl rfl (Nat.le_of_ble_eq_true rfl) (Nat.le_of_ble_eq_true rfl) rfl
theorem q_235_146 : XX d 235 146 [v0, v1, v2, v3] [] A Q ↔ Q (.inl none) A := e_retN i_235_146 rfl
theorem q_235_e : XC d 235 [.ref a0] A Q ↔ XX d 235 0 [some (.ref a0), none, none, none] [] A Q := Iff.rfl
theorem i_236_0 : t_ins 236 0 = some (.aload_n 0) := by decide +kernel
theorem i_236_1 : t_ins 236 1 = some (.iconst 0) := by decide +kernel
theorem i_236_2 : t_ins 236 2 = some (.putfield 121) := by decide +kernel
theorem i_236_5 : t_ins 236 5 = some (.aload_n 0) := by decide +kernel
theorem i_236_6 : t_ins 236 6 = some (.iload_n 1) := by decide +kernel
theorem i_236_7 : t_ins 236 7 = some (.invokestatic 245) := by decide +kernel
theorem i_236_10 : t_ins 236 10 = some (.ifCond .ne 7) := by decide +kernel
theorem i_236_13 : t_ins 236 13 = some (.iconst 1) := by decide +kernel
theorem i_236_14 : t_ins 236 14 = some (.goto 4) := by decide +kernel
theorem i_236_17 : t_ins 236 17 = some (.iconst 0) := by decide +kernel
theorem i_236_18 : t_ins 236 18 = some (.iconst 1) := by decide +kernel
theorem i_236_19 : t_ins 236 19 = some (.iconst 0) := by decide +kernel
theorem i_236_20 : t_ins 236 20 = some (.invokevirtual 234) := by decide +kernel
theorem i_236_23 : t_ins 236 23 = some (.ifCond .ne 26) := by decide +kernel
theorem i_236_26 : t_ins 236 26 = some (.aload_n 0) := by decide +kernel
theorem i_236_27 : t_ins 236 27 = some (.iload_n 2) := by decide +kernel
theorem i_236_28 : t_ins 236 28 = some (.iconst 0) := by decide +kernel
theorem i_236_29 : t_ins 236 29 = some (.iconst 2) := by decide +kernel
theorem i_236_30 : t_ins 236 30 = some (.invokestatic 230) := by decide +kernel
theorem i_236_33 : t_ins 236 33 = some (.ifCond .ne 7) := by decide +kernel
theorem i_236_36 : t_ins 236 36 = some (.iconst 1) := by decide +kernel
theorem i_236_37 : t_ins 236 37 = some (.goto 4) := by decide +kernel
theorem i_236_40 : t_ins 236 40 = some (.iconst 0) := by decide +kernel
theorem i_236_41 : t_ins 236 41 = some (.iconst 2) := by decide +kernel
theorem i_236_42 : t_ins 236 42 = some (.iconst 1) := by decide +kernel
theorem i_236_43 : t_ins 236 43 = some (.invokevirtual 234) := by decide +kernel
theorem i_236_46 : t_ins 236 46 = some (.ifCond .eq 5) := by decide +kernel
theorem i_236_49 : t_ins 236 49 = some (.iconst 0) := by decide +kernel
theorem i_236_50 : t_ins 236 50 = some (.ireturn) := by decide +kernel
theorem i_236_51 : t_ins 236 51 = some (.aload_n 0) := by decide +kernel
theorem i_236_52 : t_ins 236 52 = some (.iload_n 1) := by decide +kernel
theorem i_236_53 : t_ins 236 53 = some (.invokevirtual 301) := by decide +kernel
theorem i_236_56 : t_ins 236 56 = some (.aload_n 0) := by decide +kernel
theorem i_236_57 : t_ins 236 57 = some (.invokevirtual 382) := by decide +kernel
theorem i_236_60 : t_ins 236 60 = some (.iconst 0) := by decide +kernel
theorem i_236_61 : t_ins 236 61 = some (.istore_n 3) := by decide +kernel
theorem i_236_62 : t_ins 236 62 = some (.iconst 0) := by decide +kernel
theorem i_236_63 : t_ins 236 63 = some (.istore 4) := by decide +kernel
theorem i_236_65 : t_ins 236 65 = some (.iconst 0) := by decide +kernel
theorem i_236_66 : t_ins 236 66 = some (.istore 5) := by decide +kernel
theorem i_236_68 : t_ins 236 68 = some (.iconst 0) := by decide +kernel
theorem i_236_69 : t_ins 236 69 = some (.istore 6) := by decide +kernel
theorem i_236_71 : t_ins 236 71 = some (.iconst 0) := by decide +kernel
theorem i_236_72 : t_ins 236 72 = some (.istore 7) := by decide +kernel
theorem i_236_74 : t_ins 236 74 = some (.iload 7) := by decide +kernel
theorem i_236_76 : t_ins 236 76 = some (.aload_n 0) := by decide +kernel
theorem i_236_77 : t_ins 236 77 = some (.getfield 379) := by decide +kernel
theorem i_236_80 : t_ins 236 80 = some (.if_icmp .ge 100) := by decide +kernel
theorem i_236_83 : t_ins 236 83 = some (.iload 7) := by decide +kernel
theorem i_236_85 : t_ins 236 85 = some (.ifCond .le 30) := by decide +kernel
theorem i_236_88 : t_ins 236 88 = some (.aload_n 0) := by decide +kernel
theorem i_236_89 : t_ins 236 89 = some (.aload_n 0) := by decide +kernel
theorem i_236_90 : t_ins 236 90 = some (.getfield 118) := by decide +kernel
theorem i_236_93 : t_ins 236 93 = some (.iload 7) := by decide +kernel
theorem i_236_95 : t_ins 236 95 = some (.iconst 1) := by decide +kernel
theorem i_236_96 : t_ins 236 96 = some (.isub) := by decide +kernel
theorem i_236_97 : t_ins 236 97 = some (.iaload) := by decide +kernel
theorem i_236_98 : t_ins 236 98 = some (.aload_n 0) := by decide +kernel
theorem i_236_99 : t_ins 236 99 = some (.getfield 118) := by decide +kernel
theorem i_236_102 : t_ins 236 102 = some (.iload 7) := by decide +kernel
theorem i_236_104 : t_ins 236 104 = some (.iaload) := by decide +kernel
theorem i_236_105 : t_ins 236 105 = some (.invokevirtual 376) := by decide +kernel
theorem i_236_108 : t_ins 236 108 = some (.ifCond .ne 7) := by decide +kernel
theorem i_236_111 : t_ins 236 111 = some (.iconst 1) := by decide +kernel
theorem i_236_112 : t_ins 236 112 = some (.goto 4) := by decide +kernel
theorem i_236_115 : t_ins 236 115 = some (.iconst 0) := by decide +kernel
theorem i_236_116 : t_ins 236 116 = some (.istore 8) := by decide +kernel
theorem i_236_118 : t_ins 236 118 = some (.iload 8) := by decide +kernel
theorem i_236_120 : t_ins 236 120 = some (.ifCond .eq 10) := by decide +kernel
theorem i_236_123 : t_ins 236 123 = some (.iload 4) := by decide +kernel
theorem i_236_125 : t_ins 236 125 = some (.iconst 1) := by decide +kernel
theorem i_236_126 : t_ins 236 126 = some (.iadd) := by decide +kernel
theorem i_236_127 : t_ins 236 127 = some (.goto 4) := by decide +kernel
theorem i_236_130 : t_ins 236 130 = some (.iconst 1) := by decide +kernel
theorem i_236_131 : t_ins 236 131 = some (.istore 4) := by decide +kernel
theorem i_236_133 : t_ins 236 133 = some (.iload_n 3) := by decide +kernel
theorem i_236_134 : t_ins 236 134 = some (.iload 8) := by decide +kernel
theorem i_236_136 : t_ins 236 136 = some (.ifCond .eq 7) := by decide +kernel
theorem i_236_139 : t_ins 236 139 = some (.iconst 0) := by decide +kernel
theorem i_236_140 : t_ins 236 140 = some (.goto 4) := by decide +kernel
theorem i_236_143 : t_ins 236 143 = some (.iconst 1) := by decide +kernel
theorem i_236_144 : t_ins 236 144 = some (.iadd) := by decide +kernel
theorem i_236_145 : t_ins 236 145 = some (.istore_n 3) := by decide +kernel
theorem i_236_146 : t_ins 236 146 = some (.iload 4) := by decide +kernel
theorem i_236_148 : t_ins 236 148 = some (.iload 5) := by decide +kernel
theorem i_236_150 : t_ins 236 150 = some (.if_icmp .gt 6) := by decide +kernel
theorem i_236_153 : t_ins 236 153 = some (.goto 21) := by decide +kernel
theorem i_236_156 : t_ins 236 156 = some (.iload 4) := by decide +kernel
theorem i_236_158 : t_ins 236 158 = some (.istore 5) := by decide +kernel
theorem i_236_160 : t_ins 236 160 = some (.aload_n 0) := by decide +kernel
theorem i_236_161 : t_ins 236 161 = some (.getfield 112) := by decide +kernel
theorem i_236_164 : t_ins 236 164 = some (.aload_n 0) := by decide +kernel
theorem i_236_165 : t_ins 236 165 = some (.getfield 118) := by decide +kernel
theorem i_236_168 : t_ins 236 168 = some (.iload 7) := by decide +kernel
theorem i_236_170 : t_ins 236 170 = some (.iaload) := by decide +kernel
theorem i_236_171 : t_ins 236 171 = some (.iaload) := by decide +kernel
theorem i_236_172 : t_ins 236 172 = some (.istore 6) := by decide +kernel
theorem i_236_174 : t_ins 236 174 = some (.iinc 7 1) := by decide +kernel
theorem i_236_177 : t_ins 236 177 = some (.goto (-103)) := by decide +kernel
theorem i_236_180 : t_ins 236 180 = some (.iload_n 2) := by decide +kernel
theorem i_236_181 : t_ins 236 181 = some (.ifCond .ne 7) := by decide +kernel
theorem i_236_184 : t_ins 236 184 = some (.iload_n 3) := by decide +kernel
theorem i_236_185 : t_ins 236 185 = some (.goto 15) := by decide +kernel
theorem i_236_188 : t_ins 236 188 = some (.iload_n 2) := by decide +kernel
theorem i_236_189 : t_ins 236 189 = some (.iconst 1) := by decide +kernel
theorem i_236_190 : t_ins 236 190 = some (.if_icmp .ne 8) := by decide +kernel
theorem i_236_193 : t_ins 236 193 = some (.iload 5) := by decide +kernel
theorem i_236_195 : t_ins 236 195 = some (.goto 5) := by decide +kernel
theorem i_236_198 : t_ins 236 198 = some (.iload 6) := by decide +kernel
theorem i_236_200 : t_ins 236 200 = some (.ireturn) := by decide +kernel
theorem q_236_0 : XX d 236 0 [some (.ref a), v1, v2, v3, v4, v5, v6, v7, v8] st A Q ↔ XX d 236 1 [some (.ref a), v1, v2, v3, v4, v5, v6, v7, v8] (.ref a :: st) A Q := c_lcl i_236_0 rfl rfl
theorem q_236_1 : XX d 236 1 [v0, v1, v2, v3, v4, v5, v6, v7, v8] st A Q ↔ XX d 236 2 [v0, v1, v2, v3, v4, v5, v6, v7, v8] (.int (w 0) :: st) A Q := c_stk i_236_1 rfl
theorem q_236_2 : XX d 236 2 [v0, v1, v2, v3, v4, v5, v6, v7, v8] (.int x :: .ref a :: st) (mk S I L R G) Q ↔ S a = some (.inr 12) ∧ XX d 236 5 [v0, v1, v2, v3, v4, v5, v6, v7, v8] st (mk S (wr I a (up (I a) 0 x)) L R G) Q := r_pf i_236_2 rfl (by decide) rfl rfl rfl
theorem q_236_5 : XX d 236 5 [some (.ref a), v1, v2, v3, v4, v5, v6, v7, v8] st A Q ↔ XX d 236 6 [some (.ref a), v1, v2, v3, v4, v5, v6, v7, v8] (.ref a :: st) A Q := c_lcl i_236_5 rfl rfl
theorem q_236_6 : XX d 236 6 [v0, some (.int x), v2, v3, v4, v5, v6, v7, v8] st A Q ↔ XX d 236 7 [v0, some (.int x), v2, v3, v4, v5, v6, v7, v8] (.int x :: st) A Q := c_lcl i_236_6 rfl rfl
theorem q_236_7 : XX (d + 1) 236 7 [v0, v1, v2, v3, v4, v5, v6, v7, v8] [.int x0, .ref a1] A Q ↔ XC d 182 [.int x0] A (XK (d + 1) 236 7 [v0, v1, v2, v3, v4, v5, v6, v7, v8] [.ref a1] Q) := c_callS i_236_7 rfl rfl rfl rfl (Nat.le_of_ble_eq_true rfl) (Nat.le_of_ble_eq_true rfl)
theorem q_236_10 : XX d 236 10 [v0, v1, v2, v3, v4, v5, v6, v7, v8] (.int x :: st) A Q ↔ if x = w 0 then XX d 236 13 [v0, v1, v2, v3, v4, v5, v6, v7, v8] st A Q else XX d 236 17 [v0, v1, v2, v3, v4, v5, v6, v7, v8] st A Q := z_ne i_236_10 rfl rfl rfl
theorem q_236_13 : XX d 236 13 [v0, v1, v2, v3, v4, v5, v6, v7, v8] st A Q ↔ XX d 236 14 [v0, v1, v2, v3, v4, v5, v6, v7, v8] (.int (w 1) :: st) A Q := c_stk i_236_13 rfl
theorem q_236_14 : XX d 236 14 [v0, v1, v2, v3, v4, v5, v6, v7, v8] st A Q ↔ XX d 236 18 [v0, v1, v2, v3, v4, v5, v6, v7, v8] st A Q := c_go i_236_14 rfl rfl
theorem q_236_17 : XX d 236 17 [v0, v1, v2, v3, v4, v5, v6, v7, v8] st A Q ↔ XX d 236 18 [v0, v1, v2, v3, v4, v5, v6, v7, v8] (.int (w 0) :: st) A Q := c_stk i_236_17 rfl
theorem q_236_18 : XX d 236 18 [v0, v1, v2, v3, v4, v5, v6, v7, v8] st A Q ↔ XX d 236 19 [v0, v1, v2, v3, v4, v5, v6, v7, v8] (.int (w 1) :: st) A Q := c_stk i_236_18 rfl
theorem q_236_19 : XX d 236 19 [v0, v1, v2, v3, v4, v5, v6, v7, v8] st A Q ↔ XX d 236 20 [v0, v1, v2, v3, v4, v5, v6, v7, v8] (.int (w 0) :: st) A Q := c_stk i_236_19 rfl
theorem q_236_20 : XX (d + 1) 236 20 [v0, v1, v2, v3, v4, v5, v6, v7, v8] [.int x3, .int x2, .int x1, .ref a0] (mk S I L R G) Q ↔ S a0 = some (.inr 12) ∧ XC d 154 [.ref a0, .int x1, .int x2, .int x3] (mk S I L R G) (XK (d + 1) 236 20 [v0, v1, v2, v3, v4, v5, v6, v7, v8] [] Q) := c_callV i_236_20 rfl rfl rfl rfl (Nat.le_of_ble_eq_true rfl) (Nat.le_of_ble_eq_true rfl) rfl
theorem q_236_23 : XX d 236 23 [v0, v1, v2, v3, v4, v5, v6, v7, v8] (.int x :: st) A Q ↔ if x = w 0 then XX d 236 26 [v0, v1, v2, v3, v4, v5, v6, v7, v8] st A Q else XX d 236 49 [v0, v1, v2, v3, v4, v5, v6, v7, v8] st A Q := z_ne i_236_23 rfl rfl rfl
theorem q_236_26 : XX d 236 26 [some (.ref a), v1, v2, v3, v4, v5, v6, v7, v8] st A Q ↔ XX d 236 27 [some (.ref a), v1, v2, v3, v4, v5, v6, v7, v8] (.ref a :: st) A Q := c_lcl i_236_26 rfl rfl
theorem q_236_27 : XX d 236 27 [v0, v1, some (.int x), v3, v4, v5, v6, v7, v8] st A Q ↔ XX d 236 28 [v0, v1, some (.int x), v3, v4, v5, v6, v7, v8] (.int x :: st) A Q := c_lcl i_236_27 rfl rfl
theorem q_236_28 : XX d 236 28 [v0, v1, v2, v3, v4, v5, v6, v7, v8] st A Q ↔ XX d 236 29 [v0, v1, v2, v3, v4, v5, v6, v7, v8] (.int (w 0) :: st) A Q := c_stk i_236_28 rfl
theorem q_236_29 : XX d 236 29 [v0, v1, v2, v3, v4, v5, v6, v7, v8] st A Q ↔ XX d 236 30 [v0, v1, v2, v3, v4, v5, v6, v7, v8] (.int (w 2) :: st) A Q := c_stk i_236_29 rfl
theorem q_236_30 : XX (d + 1) 236 30 [v0, v1, v2, v3, v4, v5, v6, v7, v8] [.int x2, .int x1, .int x0, .ref a3] A Q ↔ XC d 155 [.int x0, .int x1, .int x2] A (XK (d + 1) 236 30 [v0, v1, v2, v3, v4, v5, v6, v7, v8] [.ref a3] Q) := c_callS i_236_30 rfl rfl rfl rfl (Nat.le_of_ble_eq_true rfl) (Nat.le_of_ble_eq_true rfl)
theorem q_236_33 : XX d 236 33 [v0, v1, v2, v3, v4, v5, v6, v7, v8] (.int x :: st) A Q ↔ if x = w 0 then XX d 236 36 [v0, v1, v2, v3, v4, v5, v6, v7, v8] st A Q else XX d 236 40 [v0, v1, v2, v3, v4, v5, v6, v7, v8] st A Q := z_ne i_236_33 rfl rfl rfl
theorem q_236_36 : XX d 236 36 [v0, v1, v2, v3, v4, v5, v6, v7, v8] st A Q ↔ XX d 236 37 [v0, v1, v2, v3, v4, v5, v6, v7, v8] (.int (w 1) :: st) A Q := c_stk i_236_36 rfl
theorem q_236_37 : XX d 236 37 [v0, v1, v2, v3, v4, v5, v6, v7, v8] st A Q ↔ XX d 236 41 [v0, v1, v2, v3, v4, v5, v6, v7, v8] st A Q := c_go i_236_37 rfl rfl
theorem q_236_40 : XX d 236 40 [v0, v1, v2, v3, v4, v5, v6, v7, v8] st A Q ↔ XX d 236 41 [v0, v1, v2, v3, v4, v5, v6, v7, v8] (.int (w 0) :: st) A Q := c_stk i_236_40 rfl
theorem q_236_41 : XX d 236 41 [v0, v1, v2, v3, v4, v5, v6, v7, v8] st A Q ↔ XX d 236 42 [v0, v1, v2, v3, v4, v5, v6, v7, v8] (.int (w 2) :: st) A Q := c_stk i_236_41 rfl
theorem q_236_42 : XX d 236 42 [v0, v1, v2, v3, v4, v5, v6, v7, v8] st A Q ↔ XX d 236 43 [v0, v1, v2, v3, v4, v5, v6, v7, v8] (.int (w 1) :: st) A Q := c_stk i_236_42 rfl
theorem q_236_43 : XX (d + 1) 236 43 [v0, v1, v2, v3, v4, v5, v6, v7, v8] [.int x3, .int x2, .int x1, .ref a0] (mk S I L R G) Q ↔ S a0 = some (.inr 12) ∧ XC d 154 [.ref a0, .int x1, .int x2, .int x3] (mk S I L R G) (XK (d + 1) 236 43 [v0, v1, v2, v3, v4, v5, v6, v7, v8] [] Q) := c_callV i_236_43 rfl rfl rfl rfl (Nat.le_of_ble_eq_true rfl) (Nat.le_of_ble_eq_true rfl) rfl
theorem q_236_46 : XX d 236 46 [v0, v1, v2, v3, v4, v5, v6, v7, v8] (.int x :: st) A Q ↔ if x = w 0 then XX d 236 51 [v0, v1, v2, v3, v4, v5, v6, v7, v8] st A Q else XX d 236 49 [v0, v1, v2, v3, v4, v5, v6, v7, v8] st A Q := z_eq i_236_46 rfl rfl rfl
theorem q_236_49 : XX d 236 49 [v0, v1, v2, v3, v4, v5, v6, v7, v8] st A Q ↔ XX d 236 50 [v0, v1, v2, v3, v4, v5, v6, v7, v8] (.int (w 0) :: st) A Q := c_stk i_236_49 rfl
theorem q_236_50 : XX d 236 50 [v0, v1, v2, v3, v4, v5, v6, v7, v8] [.int x] A Q ↔ Q (.inl (some (.int x))) A := e_retI i_236_50 rfl
theorem q_236_51 : XX d 236 51 [some (.ref a), v1, v2, v3, v4, v5, v6, v7, v8] st A Q ↔ XX d 236 52 [some (.ref a), v1, v2, v3, v4, v5, v6, v7, v8] (.ref a :: st) A Q := c_lcl i_236_51 rfl rfl
theorem q_236_52 : XX d 236 52 [v0, some (.int x), v2, v3, v4, v5, v6, v7, v8] st A Q ↔ XX d 236 53 [v0, some (.int x), v2, v3, v4, v5, v6, v7, v8] (.int x :: st) A Q := c_lcl i_236_52 rfl rfl
theorem q_236_53 : XX (d + 1) 236 53 [v0, v1, v2, v3, v4, v5, v6, v7, v8] [.int x1, .ref a0] (mk S I L R G) Q ↔ S a0 = some (.inr 12) ∧ XC d 194 [.ref a0, .int x1] (mk S I L R G) (XK (d + 1) 236 53 [v0, v1, v2, v3, v4, v5, v6, v7, v8] [] Q) := c_callV i_236_53 rfl rfl rfl rfl (Nat.le_of_ble_eq_true rfl) (Nat.le_of_ble_eq_true rfl) rfl
theorem q_236_56 : XX d 236 56 [some (.ref a), v1, v2, v3, v4, v5, v6, v7, v8] st A Q ↔ XX d 236 57 [some (.ref a), v1, v2, v3, v4, v5, v6, v7, v8] (.ref a :: st) A Q := c_lcl i_236_56 rfl rfl
theorem q_236_57 : XX (d + 1) 236 57 [v0, v1, v2, v3, v4, v5, v6, v7, v8] [.ref a0] (mk S I L R G) Q ↔ S a0 = some (.inr 12) ∧ XC d 235 [.ref a0] (mk S I L R G) (XK (d + 1) 236 57 [v0, v1, v2, v3, v4, v5, v6, v7, v8] [] Q) := c_callV i_236_57 rfl rfl rfl rfl (Nat.le_of_ble_eq_true rfl) (Nat.le_of_ble_eq_true rfl) rfl
theorem q_236_60 : XX d 236 60 [v0, v1, v2, v3, v4, v5, v6, v7, v8] st A Q ↔ XX d 236 61 [v0, v1, v2, v3, v4, v5, v6, v7, v8] (.int (w 0) :: st) A Q := c_stk i_236_60 rfl
theorem q_236_61 : XX d 236 61 [v0, v1, some (.int z), v3, v4, v5, v6, v7, v8] (.int x :: st) A Q ↔ XX d 236 62 [v0, v1, some (.int z), some (.int x), v4, v5, v6, v7, v8] st A Q := c_lcl i_236_61 rfl rfl
theorem q_236_62 : XX d 236 62 [v0, v1, v2, v3, v4, v5, v6, v7, v8] st A Q ↔ XX d 236 63 [v0, v1, v2, v3, v4, v5, v6, v7, v8] (.int (w 0) :: st) A Q := c_stk i_236_62 rfl
theorem q_236_63 : XX d 236 63 [v0, v1, v2, some (.int z), v4, v5, v6, v7, v8] (.int x :: st) A Q ↔ XX d 236 65 [v0, v1, v2, some (.int z), some (.int x), v5, v6, v7, v8] st A Q := c_lcl i_236_63 rfl rfl
theorem q_236_65 : XX d 236 65 [v0, v1, v2, v3, v4, v5, v6, v7, v8] st A Q ↔ XX d 236 66 [v0, v1, v2, v3, v4, v5, v6, v7, v8] (.int (w 0) :: st) A Q := c_stk i_236_65 rfl
theorem q_236_66 : XX d 236 66 [v0, v1, v2, v3, some (.int z), v5, v6, v7, v8] (.int x :: st) A Q ↔ XX d 236 68 [v0, v1, v2, v3, some (.int z), some (.int x), v6, v7, v8] st A Q := c_lcl i_236_66 rfl rfl
theorem q_236_68 : XX d 236 68 [v0, v1, v2, v3, v4, v5, v6, v7, v8] st A Q ↔ XX d 236 69 [v0, v1, v2, v3, v4, v5, v6, v7, v8] (.int (w 0) :: st) A Q := c_stk i_236_68 rfl
theorem q_236_69 : XX d 236 69 [v0, v1, v2, v3, v4, some (.int z), v6, v7, v8] (.int x :: st) A Q ↔ XX d 236 71 [v0, v1, v2, v3, v4, some (.int z), some (.int x), v7, v8] st A Q := c_lcl i_236_69 rfl rfl
theorem q_236_71 : XX d 236 71 [v0, v1, v2, v3, v4, v5, v6, v7, v8] st A Q ↔ XX d 236 72 [v0, v1, v2, v3, v4, v5, v6, v7, v8] (.int (w 0) :: st) A Q := c_stk i_236_71 rfl
theorem q_236_72 : XX d 236 72 [v0, v1, v2, v3, v4, v5, some (.int z), v7, v8] (.int x :: st) A Q ↔ XX d 236 74 [v0, v1, v2, v3, v4, v5, some (.int z), some (.int x), v8] st A Q := c_lcl i_236_72 rfl rfl
theorem q_236_74 : XX d 236 74 [v0, v1, v2, v3, v4, v5, v6, some (.int x), v8] st A Q ↔ XX d 236 76 [v0, v1, v2, v3, v4, v5, v6, some (.int x), v8] (.int x :: st) A Q := c_lcl i_236_74 rfl rfl
theorem q_236_76 : XX d 236 76 [some (.ref a), v1, v2, v3, v4, v5, v6, v7, v8] st A Q ↔ XX d 236 77 [some (.ref a), v1, v2, v3, v4, v5, v6, v7, v8] (.ref a :: st) A Q := c_lcl i_236_76 rfl rfl
theorem q_236_77 : XX d 236 77 [v0, v1, v2, v3, v4, v5, v6, v7, v8] (.ref a :: st) (mk S I L R G) Q ↔ S a = some (.inr 12) ∧ XX d 236 80 [v0, v1, v2, v3, v4, v5, v6, v7, v8] (.int (I a 49) :: st) (mk S I L R G) Q := r_gf i_236_77 rfl (by decide) rfl
theorem q_236_80 : XX d 236 80 [v0, v1, v2, v3, v4, v5, v6, v7, v8] (.int y :: .int x :: st) A Q ↔ if x < y then XX d 236 83 [v0, v1, v2, v3, v4, v5, v6, v7, v8] st A Q else XX d 236 180 [v0, v1, v2, v3, v4, v5, v6, v7, v8] st A Q := b_ge i_236_80 rfl rfl rfl
theorem q_236_83 : XX d 236 83 [v0, v1, v2, v3, v4, v5, v6, some (.int x), v8] st A Q ↔ XX d 236 85 [v0, v1, v2, v3, v4, v5, v6, some (.int x), v8] (.int x :: st) A Q := c_lcl i_236_83 rfl rfl
theorem q_236_85 : XX d 236 85 [v0, v1, v2, v3, v4, v5, v6, v7, v8] (.int x :: st) A Q ↔ if w 0 < x then XX d 236 88 [v0, v1, v2, v3, v4, v5, v6, v7, v8] st A Q else XX d 236 115 [v0, v1, v2, v3, v4, v5, v6, v7, v8] st A Q := z_le i_236_85 rfl rfl rfl
theorem q_236_88 : XX d 236 88 [some (.ref a), v1, v2, v3, v4, v5, v6, v7, v8] st A Q ↔ XX d 236 89 [some (.ref a), v1, v2, v3, v4, v5, v6, v7, v8] (.ref a :: st) A Q := c_lcl i_236_88 rfl rfl
theorem q_236_89 : XX d 236 89 [some (.ref a), v1, v2, v3, v4, v5, v6, v7, v8] st A Q ↔ XX d 236 90 [some (.ref a), v1, v2, v3, v4, v5, v6, v7, v8] (.ref a :: st) A Q := c_lcl i_236_89 rfl rfl
theorem q_236_90 : XX d 236 90 [v0, v1, v2, v3, v4, v5, v6, v7, v8] (.ref a :: st) (mk S I L R G) Q ↔ S a = some (.inr 12) ∧ XX d 236 93 [v0, v1, v2, v3, v4, v5, v6, v7, v8] (.ref (a + 6677) :: st) (mk S I L R G) Q := r_gf i_236_90 rfl (by decide) rfl
theorem q_236_93 : XX d 236 93 [v0, v1, v2, v3, v4, v5, v6, some (.int x), v8] st A Q ↔ XX d 236 95 [v0, v1, v2, v3, v4, v5, v6, some (.int x), v8] (.int x :: st) A Q := c_lcl i_236_93 rfl rfl
theorem q_236_95 : XX d 236 95 [v0, v1, v2, v3, v4, v5, v6, v7, v8] st A Q ↔ XX d 236 96 [v0, v1, v2, v3, v4, v5, v6, v7, v8] (.int (w 1) :: st) A Q := c_stk i_236_95 rfl
theorem q_236_96 : XX d 236 96 [v0, v1, v2, v3, v4, v5, v6, v7, v8] (.int y :: .int x :: st) A Q ↔ XX d 236 97 [v0, v1, v2, v3, v4, v5, v6, v7, v8] (.int (x - y) :: st) A Q := c_stk i_236_96 rfl
theorem q_236_97 : XX d 236 97 [v0, v1, v2, v3, v4, v5, v6, v7, v8] (.int x :: .ref a :: st) (mk S I L R G) Q ↔ inA (S a) ok_i x ∧ XX d 236 98 [v0, v1, v2, v3, v4, v5, v6, v7, v8] (.int (I a (ix x)) :: st) (mk S I L R G) Q := r_ia i_236_97
theorem q_236_98 : XX d 236 98 [some (.ref a), v1, v2, v3, v4, v5, v6, v7, v8] st A Q ↔ XX d 236 99 [some (.ref a), v1, v2, v3, v4, v5, v6, v7, v8] (.ref a :: st) A Q := c_lcl i_236_98 rfl rfl
theorem q_236_99 : XX d 236 99 [v0, v1, v2, v3, v4, v5, v6, v7, v8] (.ref a :: st) (mk S I L R G) Q ↔ S a = some (.inr 12) ∧ XX d 236 102 [v0, v1, v2, v3, v4, v5, v6, v7, v8] (.ref (a + 6677) :: st) (mk S I L R G) Q := r_gf i_236_99 rfl (by decide) rfl
theorem q_236_102 : XX d 236 102 [v0, v1, v2, v3, v4, v5, v6, some (.int x), v8] st A Q ↔ XX d 236 104 [v0, v1, v2, v3, v4, v5, v6, some (.int x), v8] (.int x :: st) A Q := c_lcl i_236_102 rfl rfl
theorem q_236_104 : XX d 236 104 [v0, v1, v2, v3, v4, v5, v6, v7, v8] (.int x :: .ref a :: st) (mk S I L R G) Q ↔ inA (S a) ok_i x ∧ XX d 236 105 [v0, v1, v2, v3, v4, v5, v6, v7, v8] (.int (I a (ix x)) :: st) (mk S I L R G) Q := r_ia i_236_104
theorem q_236_105 : XX (d + 1) 236 105 [v0, v1, v2, v3, v4, v5, v6, v7, v8] [.int x2, .int x1, .ref a0] (mk S I L R G) Q ↔ S a0 = some (.inr 12) ∧ XC d 233 [.ref a0, .int x1, .int x2] (mk S I L R G) (XK (d + 1) 236 105 [v0, v1, v2, v3, v4, v5, v6, v7, v8] [] Q) := c_callV i_236_105 rfl rfl rfl rfl (Nat.le_of_ble_eq_true rfl) (Nat.le_of_ble_eq_true rfl) rfl
theorem q_236_108 : XX d 236 108 [v0, v1, v2, v3, v4, v5, v6, v7, v8] (.int x :: st) A Q ↔ if x = w 0 then XX d 236 111 [v0, v1, v2, v3, v4, v5, v6, v7, v8] st A Q else XX d 236 115 [v0, v1, v2, v3, v4, v5, v6, v7, v8] st A Q := z_ne i_236_108 rfl rfl rfl
theorem q_236_111 : XX d 236 111 [v0, v1, v2, v3, v4, v5, v6, v7, v8] st A Q ↔ XX d 236 112 [v0, v1, v2, v3, v4, v5, v6, v7, v8] (.int (w 1) :: st) A Q := c_stk i_236_111 rfl
theorem q_236_112 : XX d 236 112 [v0, v1, v2, v3, v4, v5, v6, v7, v8] st A Q ↔ XX d 236 116 [v0, v1, v2, v3, v4, v5, v6, v7, v8] st A Q := c_go i_236_112 rfl rfl
theorem q_236_115 : XX d 236 115 [v0, v1, v2, v3, v4, v5, v6, v7, v8] st A Q ↔ XX d 236 116 [v0, v1, v2, v3, v4, v5, v6, v7, v8] (.int (w 0) :: st) A Q := c_stk i_236_115 rfl
theorem q_236_116 : XX d 236 116 [v0, v1, v2, v3, v4, v5, v6, some (.int z), v8] (.int x :: st) A Q ↔ XX d 236 118 [v0, v1, v2, v3, v4, v5, v6, some (.int z), some (.int x)] st A Q := c_lcl i_236_116 rfl rfl
theorem q_236_118 : XX d 236 118 [v0, v1, v2, v3, v4, v5, v6, v7, some (.int x)] st A Q ↔ XX d 236 120 [v0, v1, v2, v3, v4, v5, v6, v7, some (.int x)] (.int x :: st) A Q := c_lcl i_236_118 rfl rfl
theorem q_236_120 : XX d 236 120 [v0, v1, v2, v3, v4, v5, v6, v7, v8] (.int x :: st) A Q ↔ if x = w 0 then XX d 236 130 [v0, v1, v2, v3, v4, v5, v6, v7, v8] st A Q else XX d 236 123 [v0, v1, v2, v3, v4, v5, v6, v7, v8] st A Q := z_eq i_236_120 rfl rfl rfl
theorem q_236_123 : XX d 236 123 [v0, v1, v2, v3, some (.int x), v5, v6, v7, v8] st A Q ↔ XX d 236 125 [v0, v1, v2, v3, some (.int x), v5, v6, v7, v8] (.int x :: st) A Q := c_lcl i_236_123 rfl rfl
theorem q_236_125 : XX d 236 125 [v0, v1, v2, v3, v4, v5, v6, v7, v8] st A Q ↔ XX d 236 126 [v0, v1, v2, v3, v4, v5, v6, v7, v8] (.int (w 1) :: st) A Q := c_stk i_236_125 rfl
theorem q_236_126 : XX d 236 126 [v0, v1, v2, v3, v4, v5, v6, v7, v8] (.int y :: .int x :: st) A Q ↔ XX d 236 127 [v0, v1, v2, v3, v4, v5, v6, v7, v8] (.int (x + y) :: st) A Q := c_stk i_236_126 rfl
theorem q_236_127 : XX d 236 127 [v0, v1, v2, v3, v4, v5, v6, v7, v8] st A Q ↔ XX d 236 131 [v0, v1, v2, v3, v4, v5, v6, v7, v8] st A Q := c_go i_236_127 rfl rfl
theorem q_236_130 : XX d 236 130 [v0, v1, v2, v3, v4, v5, v6, v7, v8] st A Q ↔ XX d 236 131 [v0, v1, v2, v3, v4, v5, v6, v7, v8] (.int (w 1) :: st) A Q := c_stk i_236_130 rfl
theorem q_236_131 : XX d 236 131 [v0, v1, v2, some (.int z), v4, v5, v6, v7, v8] (.int x :: st) A Q ↔ XX d 236 133 [v0, v1, v2, some (.int z), some (.int x), v5, v6, v7, v8] st A Q := c_lcl i_236_131 rfl rfl
theorem q_236_133 : XX d 236 133 [v0, v1, v2, some (.int x), v4, v5, v6, v7, v8] st A Q ↔ XX d 236 134 [v0, v1, v2, some (.int x), v4, v5, v6, v7, v8] (.int x :: st) A Q := c_lcl i_236_133 rfl rfl
theorem q_236_134 : XX d 236 134 [v0, v1, v2, v3, v4, v5, v6, v7, some (.int x)] st A Q ↔ XX d 236 136 [v0, v1, v2, v3, v4, v5, v6, v7, some (.int x)] (.int x :: st) A Q := c_lcl i_236_134 rfl rfl
theorem q_236_136 : XX d 236 136 [v0, v1, v2, v3, v4, v5, v6, v7, v8] (.int x :: st) A Q ↔ if x = w 0 then XX d 236 143 [v0, v1, v2, v3, v4, v5, v6, v7, v8] st A Q else XX d 236 139 [v0, v1, v2, v3, v4, v5, v6, v7, v8] st A Q := z_eq i_236_136 rfl rfl rfl
theorem q_236_139 : XX d 236 139 [v0, v1, v2, v3, v4, v5, v6, v7, v8] st A Q ↔ XX d 236 140 [v0, v1, v2, v3, v4, v5, v6, v7, v8] (.int (w 0) :: st) A Q := c_stk i_236_139 rfl
theorem q_236_140 : XX d 236 140 [v0, v1, v2, v3, v4, v5, v6, v7, v8] st A Q ↔ XX d 236 144 [v0, v1, v2, v3, v4, v5, v6, v7, v8] st A Q := c_go i_236_140 rfl rfl
theorem q_236_143 : XX d 236 143 [v0, v1, v2, v3, v4, v5, v6, v7, v8] st A Q ↔ XX d 236 144 [v0, v1, v2, v3, v4, v5, v6, v7, v8] (.int (w 1) :: st) A Q := c_stk i_236_143 rfl
theorem q_236_144 : XX d 236 144 [v0, v1, v2, v3, v4, v5, v6, v7, v8] (.int y :: .int x :: st) A Q ↔ XX d 236 145 [v0, v1, v2, v3, v4, v5, v6, v7, v8] (.int (x + y) :: st) A Q := c_stk i_236_144 rfl
theorem q_236_145 : XX d 236 145 [v0, v1, some (.int z), v3, v4, v5, v6, v7, v8] (.int x :: st) A Q ↔ XX d 236 146 [v0, v1, some (.int z), some (.int x), v4, v5, v6, v7, v8] st A Q := c_lcl i_236_145 rfl rfl
theorem q_236_146 : XX d 236 146 [v0, v1, v2, v3, some (.int x), v5, v6, v7, v8] st A Q ↔ XX d 236 148 [v0, v1, v2, v3, some (.int x), v5, v6, v7, v8] (.int x :: st) A Q := c_lcl i_236_146 rfl rfl
theorem q_236_148 : XX d 236 148 [v0, v1, v2, v3, v4, some (.int x), v6, v7, v8] st A Q ↔ XX d 236 150 [v0, v1, v2, v3, v4, some (.int x), v6, v7, v8] (.int x :: st) A Q := c_lcl i_236_148 rfl rfl
theorem q_236_150 : XX d 236 150 [v0, v1, v2, v3, v4, v5, v6, v7, v8] (.int y :: .int x :: st) A Q ↔ if y < x then XX d 236 156 [v0, v1, v2, v3, v4, v5, v6, v7, v8] st A Q else XX d 236 153 [v0, v1, v2, v3, v4, v5, v6, v7, v8] st A Q := b_gt i_236_150 rfl rfl rfl
theorem q_236_153 : XX d 236 153 [v0, v1, v2, v3, v4, v5, v6, v7, v8] st A Q ↔ XX d 236 174 [v0, v1, v2, v3, v4, v5, v6, v7, v8] st A Q := c_go i_236_153 rfl rfl
theorem q_236_156 : XX d 236 156 [v0, v1, v2, v3, some (.int x), v5, v6, v7, v8] st A Q ↔ XX d 236 158 [v0, v1, v2, v3, some (.int x), v5, v6, v7, v8] (.int x :: st) A Q := c_lcl i_236_156 rfl rfl
theorem q_236_158 : XX d 236 158 [v0, v1, v2, v3, some (.int z), v5, v6, v7, v8] (.int x :: st) A Q ↔ XX d 236 160 [v0, v1, v2, v3, some (.int z), some (.int x), v6, v7, v8] st A Q := c_lcl i_236_158 rfl rfl
theorem q_236_160 : XX d 236 160 [some (.ref a), v1, v2, v3, v4, v5, v6, v7, v8] st A Q ↔ XX d 236 161 [some (.ref a), v1, v2, v3, v4, v5, v6, v7, v8] (.ref a :: st) A Q := c_lcl i_236_160 rfl rfl
theorem q_236_161 : XX d 236 161 [v0, v1, v2, v3, v4, v5, v6, v7, v8] (.ref a :: st) (mk S I L R G) Q ↔ S a = some (.inr 12) ∧ XX d 236 164 [v0, v1, v2, v3, v4, v5, v6, v7, v8] (.ref (a + 6675) :: st) (mk S I L R G) Q := r_gf i_236_161 rfl (by decide) rfl
theorem q_236_164 : XX d 236 164 [some (.ref a), v1, v2, v3, v4, v5, v6, v7, v8] st A Q ↔ XX d 236 165 [some (.ref a), v1, v2, v3, v4, v5, v6, v7, v8] (.ref a :: st) A Q := c_lcl i_236_164 rfl rfl
theorem q_236_165 : XX d 236 165 [v0, v1, v2, v3, v4, v5, v6, v7, v8] (.ref a :: st) (mk S I L R G) Q ↔ S a = some (.inr 12) ∧ XX d 236 168 [v0, v1, v2, v3, v4, v5, v6, v7, v8] (.ref (a + 6677) :: st) (mk S I L R G) Q := r_gf i_236_165 rfl (by decide) rfl
theorem q_236_168 : XX d 236 168 [v0, v1, v2, v3, v4, v5, v6, some (.int x), v8] st A Q ↔ XX d 236 170 [v0, v1, v2, v3, v4, v5, v6, some (.int x), v8] (.int x :: st) A Q := c_lcl i_236_168 rfl rfl
theorem q_236_170 : XX d 236 170 [v0, v1, v2, v3, v4, v5, v6, v7, v8] (.int x :: .ref a :: st) (mk S I L R G) Q ↔ inA (S a) ok_i x ∧ XX d 236 171 [v0, v1, v2, v3, v4, v5, v6, v7, v8] (.int (I a (ix x)) :: st) (mk S I L R G) Q := r_ia i_236_170
theorem q_236_171 : XX d 236 171 [v0, v1, v2, v3, v4, v5, v6, v7, v8] (.int x :: .ref a :: st) (mk S I L R G) Q ↔ inA (S a) ok_i x ∧ XX d 236 172 [v0, v1, v2, v3, v4, v5, v6, v7, v8] (.int (I a (ix x)) :: st) (mk S I L R G) Q := r_ia i_236_171
theorem q_236_172 : XX d 236 172 [v0, v1, v2, v3, v4, some (.int z), v6, v7, v8] (.int x :: st) A Q ↔ XX d 236 174 [v0, v1, v2, v3, v4, some (.int z), some (.int x), v7, v8] st A Q := c_lcl i_236_172 rfl rfl
theorem q_236_174 : XX d 236 174 [v0, v1, v2, v3, v4, v5, some (.int z), some (.int x), v8] st A Q ↔ XX d 236 177 [v0, v1, v2, v3, v4, v5, some (.int z), some (.int (x + w 1)), v8] st A Q := c_lcl i_236_174 rfl rfl
theorem q_236_177 : XX d 236 177 [v0, v1, v2, v3, v4, v5, v6, v7, v8] st A Q ↔ XX d 236 74 [v0, v1, v2, v3, v4, v5, v6, v7, v8] st A Q := c_go i_236_177 rfl rfl
theorem q_236_180 : XX d 236 180 [v0, v1, some (.int x), v3, v4, v5, v6, v7, v8] st A Q ↔ XX d 236 181 [v0, v1, some (.int x), v3, v4, v5, v6, v7, v8] (.int x :: st) A Q := c_lcl i_236_180 rfl rfl
theorem q_236_181 : XX d 236 181 [v0, v1, v2, v3, v4, v5, v6, v7, v8] (.int x :: st) A Q ↔ if x = w 0 then XX d 236 184 [v0, v1, v2, v3, v4, v5, v6, v7, v8] st A Q else XX d 236 188 [v0, v1, v2, v3, v4, v5, v6, v7, v8] st A Q := z_ne i_236_181 rfl rfl rfl
theorem q_236_184 : XX d 236 184 [v0, v1, v2, some (.int x), v4, v5, v6, v7, v8] st A Q ↔ XX d 236 185 [v0, v1, v2, some (.int x), v4, v5, v6, v7, v8] (.int x :: st) A Q := c_lcl i_236_184 rfl rfl
theorem q_236_185 : XX d 236 185 [v0, v1, v2, v3, v4, v5, v6, v7, v8] st A Q ↔ XX d 236 200 [v0, v1, v2, v3, v4, v5, v6, v7, v8] st A Q := c_go i_236_185 rfl rfl
theorem q_236_188 : XX d 236 188 [v0, v1, some (.int x), v3, v4, v5, v6, v7, v8] st A Q ↔ XX d 236 189 [v0, v1, some (.int x), v3, v4, v5, v6, v7, v8] (.int x :: st) A Q := c_lcl i_236_188 rfl rfl
theorem q_236_189 : XX d 236 189 [v0, v1, v2, v3, v4, v5, v6, v7, v8] st A Q ↔ XX d 236 190 [v0, v1, v2, v3, v4, v5, v6, v7, v8] (.int (w 1) :: st) A Q := c_stk i_236_189 rfl
theorem q_236_190 : XX d 236 190 [v0, v1, v2, v3, v4, v5, v6, v7, v8] (.int y :: .int x :: st) A Q ↔ if x = y then XX d 236 193 [v0, v1, v2, v3, v4, v5, v6, v7, v8] st A Q else XX d 236 198 [v0, v1, v2, v3, v4, v5, v6, v7, v8] st A Q := b_ne i_236_190 rfl rfl rfl
theorem q_236_193 : XX d 236 193 [v0, v1, v2, v3, v4, some (.int x), v6, v7, v8] st A Q ↔ XX d 236 195 [v0, v1, v2, v3, v4, some (.int x), v6, v7, v8] (.int x :: st) A Q := c_lcl i_236_193 rfl rfl
theorem q_236_195 : XX d 236 195 [v0, v1, v2, v3, v4, v5, v6, v7, v8] st A Q ↔ XX d 236 200 [v0, v1, v2, v3, v4, v5, v6, v7, v8] st A Q := c_go i_236_195 rfl rfl
theorem q_236_198 : XX d 236 198 [v0, v1, v2, v3, v4, v5, some (.int x), v7, v8] st A Q ↔ XX d 236 200 [v0, v1, v2, v3, v4, v5, some (.int x), v7, v8] (.int x :: st) A Q := c_lcl i_236_198 rfl rfl
theorem q_236_200 : XX d 236 200 [v0, v1, v2, v3, v4, v5, v6, v7, v8] [.int x] A Q ↔ Q (.inl (some (.int x))) A := e_retI i_236_200 rfl
theorem q_236_e : XC d 236 [.ref a0, .int x1, .int x2] A Q ↔ XX d 236 0 [some (.ref a0), some (.int x1), some (.int x2), none, none, none, none, none, none] [] A Q := Iff.rfl
theorem i_237_0 : t_ins 237 0 = some (.aload_n 0) := by decide +kernel
theorem i_237_1 : t_ins 237 1 = some (.iconst 0) := by decide +kernel
theorem i_237_2 : t_ins 237 2 = some (.putfield 121) := by decide +kernel
theorem i_237_5 : t_ins 237 5 = some (.aload_n 0) := by decide +kernel
theorem i_237_6 : t_ins 237 6 = some (.iload_n 1) := by decide +kernel
theorem i_237_7 : t_ins 237 7 = some (.invokestatic 245) := by decide +kernel
theorem i_237_10 : t_ins 237 10 = some (.ifCond .ne 7) := by decide +kernel
theorem i_237_13 : t_ins 237 13 = some (.iconst 1) := by decide +kernel
theorem i_237_14 : t_ins 237 14 = some (.goto 4) := by decide +kernel
theorem i_237_17 : t_ins 237 17 = some (.iconst 0) := by decide +kernel
theorem i_237_18 : t_ins 237 18 = some (.iconst 1) := by decide +kernel
theorem i_237_19 : t_ins 237 19 = some (.iconst 0) := by decide +kernel
theorem i_237_20 : t_ins 237 20 = some (.invokevirtual 234) := by decide +kernel
theorem i_237_23 : t_ins 237 23 = some (.ifCond .eq 5) := by decide +kernel
theorem i_237_26 : t_ins 237 26 = some (.iconst 0) := by decide +kernel
theorem i_237_27 : t_ins 237 27 = some (.ireturn) := by decide +kernel
theorem i_237_28 : t_ins 237 28 = some (.aload_n 0) := by decide +kernel
theorem i_237_29 : t_ins 237 29 = some (.iload_n 1) := by decide +kernel
theorem i_237_30 : t_ins 237 30 = some (.invokevirtual 308) := by decide +kernel
theorem i_237_33 : t_ins 237 33 = some (.iconst 0) := by decide +kernel
theorem i_237_34 : t_ins 237 34 = some (.istore_n 2) := by decide +kernel
theorem i_237_35 : t_ins 237 35 = some (.aload_n 0) := by decide +kernel
theorem i_237_36 : t_ins 237 36 = some (.getfield 20) := by decide +kernel
theorem i_237_39 : t_ins 237 39 = some (.iload_n 1) := by decide +kernel
theorem i_237_40 : t_ins 237 40 = some (.iaload) := by decide +kernel
theorem i_237_41 : t_ins 237 41 = some (.istore_n 3) := by decide +kernel
theorem i_237_42 : t_ins 237 42 = some (.iconst 0) := by decide +kernel
theorem i_237_43 : t_ins 237 43 = some (.istore 4) := by decide +kernel
theorem i_237_45 : t_ins 237 45 = some (.iload 4) := by decide +kernel
theorem i_237_47 : t_ins 237 47 = some (.iload_n 3) := by decide +kernel
theorem i_237_48 : t_ins 237 48 = some (.if_icmp .ge 56) := by decide +kernel
theorem i_237_51 : t_ins 237 51 = some (.aload_n 0) := by decide +kernel
theorem i_237_52 : t_ins 237 52 = some (.iload_n 1) := by decide +kernel
theorem i_237_53 : t_ins 237 53 = some (.iconst 2) := by decide +kernel
theorem i_237_54 : t_ins 237 54 = some (.invokevirtual 221) := by decide +kernel
theorem i_237_57 : t_ins 237 57 = some (.aload_n 0) := by decide +kernel
theorem i_237_58 : t_ins 237 58 = some (.iload_n 1) := by decide +kernel
theorem i_237_59 : t_ins 237 59 = some (.iload 4) := by decide +kernel
theorem i_237_61 : t_ins 237 61 = some (.invokevirtual 252) := by decide +kernel
theorem i_237_64 : t_ins 237 64 = some (.aload_n 0) := by decide +kernel
theorem i_237_65 : t_ins 237 65 = some (.iconst (-1)) := by decide +kernel
theorem i_237_66 : t_ins 237 66 = some (.putfield 51) := by decide +kernel
theorem i_237_69 : t_ins 237 69 = some (.aload_n 0) := by decide +kernel
theorem i_237_70 : t_ins 237 70 = some (.iload_n 1) := by decide +kernel
theorem i_237_71 : t_ins 237 71 = some (.invokevirtual 301) := by decide +kernel
theorem i_237_74 : t_ins 237 74 = some (.iload_n 2) := by decide +kernel
theorem i_237_75 : t_ins 237 75 = some (.aload_n 0) := by decide +kernel
theorem i_237_76 : t_ins 237 76 = some (.invokevirtual 314) := by decide +kernel
theorem i_237_79 : t_ins 237 79 = some (.ifCond .ne 10) := by decide +kernel
theorem i_237_82 : t_ins 237 82 = some (.iconst 1) := by decide +kernel
theorem i_237_83 : t_ins 237 83 = some (.iload 4) := by decide +kernel
theorem i_237_85 : t_ins 237 85 = some (.ishl) := by decide +kernel
theorem i_237_86 : t_ins 237 86 = some (.goto 4) := by decide +kernel
theorem i_237_89 : t_ins 237 89 = some (.iconst 0) := by decide +kernel
theorem i_237_90 : t_ins 237 90 = some (.ior) := by decide +kernel
theorem i_237_91 : t_ins 237 91 = some (.istore_n 2) := by decide +kernel
theorem i_237_92 : t_ins 237 92 = some (.aload_n 0) := by decide +kernel
theorem i_237_93 : t_ins 237 93 = some (.iconst 2) := by decide +kernel
theorem i_237_94 : t_ins 237 94 = some (.iload_n 1) := by decide +kernel
theorem i_237_95 : t_ins 237 95 = some (.invokevirtual 221) := by decide +kernel
theorem i_237_98 : t_ins 237 98 = some (.iinc 4 1) := by decide +kernel
theorem i_237_101 : t_ins 237 101 = some (.goto (-56)) := by decide +kernel
theorem i_237_104 : t_ins 237 104 = some (.aload_n 0) := by decide +kernel
theorem i_237_105 : t_ins 237 105 = some (.iconst (-1)) := by decide +kernel
theorem i_237_106 : t_ins 237 106 = some (.putfield 51) := by decide +kernel
theorem i_237_109 : t_ins 237 109 = some (.iload_n 2) := by decide +kernel
theorem i_237_110 : t_ins 237 110 = some (.ireturn) := by decide +kernel
theorem q_237_0 : XX d 237 0 [some (.ref a), v1, v2, v3, v4] st A Q ↔ XX d 237 1 [some (.ref a), v1, v2, v3, v4] (.ref a :: st) A Q := c_lcl i_237_0 rfl rfl
theorem q_237_1 : XX d 237 1 [v0, v1, v2, v3, v4] st A Q ↔ XX d 237 2 [v0, v1, v2, v3, v4] (.int (w 0) :: st) A Q := c_stk i_237_1 rfl
theorem q_237_2 : XX d 237 2 [v0, v1, v2, v3, v4] (.int x :: .ref a :: st) (mk S I L R G) Q ↔ S a = some (.inr 12) ∧ XX d 237 5 [v0, v1, v2, v3, v4] st (mk S (wr I a (up (I a) 0 x)) L R G) Q := r_pf i_237_2 rfl (by decide) rfl rfl rfl
theorem q_237_5 : XX d 237 5 [some (.ref a), v1, v2, v3, v4] st A Q ↔ XX d 237 6 [some (.ref a), v1, v2, v3, v4] (.ref a :: st) A Q := c_lcl i_237_5 rfl rfl
theorem q_237_6 : XX d 237 6 [v0, some (.int x), v2, v3, v4] st A Q ↔ XX d 237 7 [v0, some (.int x), v2, v3, v4] (.int x :: st) A Q := c_lcl i_237_6 rfl rfl
theorem q_237_7 : XX (d + 1) 237 7 [v0, v1, v2, v3, v4] [.int x0, .ref a1] A Q ↔ XC d 182 [.int x0] A (XK (d + 1) 237 7 [v0, v1, v2, v3, v4] [.ref a1] Q) := c_callS i_237_7 rfl rfl rfl rfl (Nat.le_of_ble_eq_true rfl) (Nat.le_of_ble_eq_true rfl)
theorem q_237_10 : XX d 237 10 [v0, v1, v2, v3, v4] (.int x :: st) A Q ↔ if x = w 0 then XX d 237 13 [v0, v1, v2, v3, v4] st A Q else XX d 237 17 [v0, v1, v2, v3, v4] st A Q := z_ne i_237_10 rfl rfl rfl
theorem q_237_13 : XX d 237 13 [v0, v1, v2, v3, v4] st A Q ↔ XX d 237 14 [v0, v1, v2, v3, v4] (.int (w 1) :: st) A Q := c_stk i_237_13 rfl
theorem q_237_14 : XX d 237 14 [v0, v1, v2, v3, v4] st A Q ↔ XX d 237 18 [v0, v1, v2, v3, v4] st A Q := c_go i_237_14 rfl rfl
theorem q_237_17 : XX d 237 17 [v0, v1, v2, v3, v4] st A Q ↔ XX d 237 18 [v0, v1, v2, v3, v4] (.int (w 0) :: st) A Q := c_stk i_237_17 rfl
theorem q_237_18 : XX d 237 18 [v0, v1, v2, v3, v4] st A Q ↔ XX d 237 19 [v0, v1, v2, v3, v4] (.int (w 1) :: st) A Q := c_stk i_237_18 rfl
theorem q_237_19 : XX d 237 19 [v0, v1, v2, v3, v4] st A Q ↔ XX d 237 20 [v0, v1, v2, v3, v4] (.int (w 0) :: st) A Q := c_stk i_237_19 rfl
theorem q_237_20 : XX (d + 1) 237 20 [v0, v1, v2, v3, v4] [.int x3, .int x2, .int x1, .ref a0] (mk S I L R G) Q ↔ S a0 = some (.inr 12) ∧ XC d 154 [.ref a0, .int x1, .int x2, .int x3] (mk S I L R G) (XK (d + 1) 237 20 [v0, v1, v2, v3, v4] [] Q) := c_callV i_237_20 rfl rfl rfl rfl (Nat.le_of_ble_eq_true rfl) (Nat.le_of_ble_eq_true rfl) rfl
theorem q_237_23 : XX d 237 23 [v0, v1, v2, v3, v4] (.int x :: st) A Q ↔ if x = w 0 then XX d 237 28 [v0, v1, v2, v3, v4] st A Q else XX d 237 26 [v0, v1, v2, v3, v4] st A Q := z_eq i_237_23 rfl rfl rfl
theorem q_237_26 : XX d 237 26 [v0, v1, v2, v3, v4] st A Q ↔ XX d 237 27 [v0, v1, v2, v3, v4] (.int (w 0) :: st) A Q := c_stk i_237_26 rfl
theorem q_237_27 : XX d 237 27 [v0, v1, v2, v3, v4] [.int x] A Q ↔ Q (.inl (some (.int x))) A := e_retI i_237_27 rfl
theorem q_237_28 : XX d 237 28 [some (.ref a), v1, v2, v3, v4] st A Q ↔ XX d 237 29 [some (.ref a), v1, v2, v3, v4] (.ref a :: st) A Q := c_lcl i_237_28 rfl rfl
theorem q_237_29 : XX d 237 29 [v0, some (.int x), v2, v3, v4] st A Q ↔ XX d 237 30 [v0, some (.int x), v2, v3, v4] (.int x :: st) A Q := c_lcl i_237_29 rfl rfl
theorem q_237_30 : XX (d + 1) 237 30 [v0, v1, v2, v3, v4] [.int x1, .ref a0] (mk S I L R G) Q ↔ S a0 = some (.inr 12) ∧ XC d 197 [.ref a0, .int x1] (mk S I L R G) (XK (d + 1) 237 30 [v0, v1, v2, v3, v4] [] Q) := c_callV i_237_30 rfl rfl rfl rfl (Nat.le_of_ble_eq_true rfl) (Nat.le_of_ble_eq_true rfl) rfl
theorem q_237_33 : XX d 237 33 [v0, v1, v2, v3, v4] st A Q ↔ XX d 237 34 [v0, v1, v2, v3, v4] (.int (w 0) :: st) A Q := c_stk i_237_33 rfl
theorem q_237_34 : XX d 237 34 [v0, some (.int z), v2, v3, v4] (.int x :: st) A Q ↔ XX d 237 35 [v0, some (.int z), some (.int x), v3, v4] st A Q := c_lcl i_237_34 rfl rfl
theorem q_237_35 : XX d 237 35 [some (.ref a), v1, v2, v3, v4] st A Q ↔ XX d 237 36 [some (.ref a), v1, v2, v3, v4] (.ref a :: st) A Q := c_lcl i_237_35 rfl rfl
theorem q_237_36 : XX d 237 36 [v0, v1, v2, v3, v4] (.ref a :: st) (mk S I L R G) Q ↔ S a = some (.inr 12) ∧ XX d 237 39 [v0, v1, v2, v3, v4] (.ref (a + 3) :: st) (mk S I L R G) Q := r_gf i_237_36 rfl (by decide) rfl
theorem q_237_39 : XX d 237 39 [v0, some (.int x), v2, v3, v4] st A Q ↔ XX d 237 40 [v0, some (.int x), v2, v3, v4] (.int x :: st) A Q := c_lcl i_237_39 rfl rfl
theorem q_237_40 : XX d 237 40 [v0, v1, v2, v3, v4] (.int x :: .ref a :: st) (mk S I L R G) Q ↔ inA (S a) ok_i x ∧ XX d 237 41 [v0, v1, v2, v3, v4] (.int (I a (ix x)) :: st) (mk S I L R G) Q := r_ia i_237_40
theorem q_237_41 : XX d 237 41 [v0, v1, some (.int z), v3, v4] (.int x :: st) A Q ↔ XX d 237 42 [v0, v1, some (.int z), some (.int x), v4] st A Q := c_lcl i_237_41 rfl rfl
theorem q_237_42 : XX d 237 42 [v0, v1, v2, v3, v4] st A Q ↔ XX d 237 43 [v0, v1, v2, v3, v4] (.int (w 0) :: st) A Q := c_stk i_237_42 rfl
theorem q_237_43 : XX d 237 43 [v0, v1, v2, some (.int z), v4] (.int x :: st) A Q ↔ XX d 237 45 [v0, v1, v2, some (.int z), some (.int x)] st A Q := c_lcl i_237_43 rfl rfl
theorem q_237_45 : XX d 237 45 [v0, v1, v2, v3, some (.int x)] st A Q ↔ XX d 237 47 [v0, v1, v2, v3, some (.int x)] (.int x :: st) A Q := c_lcl i_237_45 rfl rfl
theorem q_237_47 : XX d 237 47 [v0, v1, v2, some (.int x), v4] st A Q ↔ XX d 237 48 [v0, v1, v2, some (.int x), v4] (.int x :: st) A Q := c_lcl i_237_47 rfl rfl
theorem q_237_48 : XX d 237 48 [v0, v1, v2, v3, v4] (.int y :: .int x :: st) A Q ↔ if x < y then XX d 237 51 [v0, v1, v2, v3, v4] st A Q else XX d 237 104 [v0, v1, v2, v3, v4] st A Q := b_ge i_237_48 rfl rfl rfl
theorem q_237_51 : XX d 237 51 [some (.ref a), v1, v2, v3, v4] st A Q ↔ XX d 237 52 [some (.ref a), v1, v2, v3, v4] (.ref a :: st) A Q := c_lcl i_237_51 rfl rfl
theorem q_237_52 : XX d 237 52 [v0, some (.int x), v2, v3, v4] st A Q ↔ XX d 237 53 [v0, some (.int x), v2, v3, v4] (.int x :: st) A Q := c_lcl i_237_52 rfl rfl
theorem q_237_53 : XX d 237 53 [v0, v1, v2, v3, v4] st A Q ↔ XX d 237 54 [v0, v1, v2, v3, v4] (.int (w 2) :: st) A Q := c_stk i_237_53 rfl
theorem q_237_54 : XX (d + 1) 237 54 [v0, v1, v2, v3, v4] [.int x2, .int x1, .ref a0] (mk S I L R G) Q ↔ S a0 = some (.inr 12) ∧ XC d 174 [.ref a0, .int x1, .int x2] (mk S I L R G) (XK (d + 1) 237 54 [v0, v1, v2, v3, v4] [] Q) := c_callV i_237_54 rfl rfl rfl rfl (Nat.le_of_ble_eq_true rfl) (Nat.le_of_ble_eq_true rfl) rfl
theorem q_237_57 : XX d 237 57 [some (.ref a), v1, v2, v3, v4] st A Q ↔ XX d 237 58 [some (.ref a), v1, v2, v3, v4] (.ref a :: st) A Q := c_lcl i_237_57 rfl rfl
theorem q_237_58 : XX d 237 58 [v0, some (.int x), v2, v3, v4] st A Q ↔ XX d 237 59 [v0, some (.int x), v2, v3, v4] (.int x :: st) A Q := c_lcl i_237_58 rfl rfl
theorem q_237_59 : XX d 237 59 [v0, v1, v2, v3, some (.int x)] st A Q ↔ XX d 237 61 [v0, v1, v2, v3, some (.int x)] (.int x :: st) A Q := c_lcl i_237_59 rfl rfl
theorem q_237_61 : XX (d + 1) 237 61 [v0, v1, v2, v3, v4] [.int x2, .int x1, .ref a0] (mk S I L R G) Q ↔ S a0 = some (.inr 12) ∧ XC d 184 [.ref a0, .int x1, .int x2] (mk S I L R G) (XK (d + 1) 237 61 [v0, v1, v2, v3, v4] [] Q) := c_callV i_237_61 rfl rfl rfl rfl (Nat.le_of_ble_eq_true rfl) (Nat.le_of_ble_eq_true rfl) rfl
theorem q_237_64 : XX d 237 64 [some (.ref a), v1, v2, v3, v4] st A Q ↔ XX d 237 65 [some (.ref a), v1, v2, v3, v4] (.ref a :: st) A Q := c_lcl i_237_64 rfl rfl
theorem q_237_65 : XX d 237 65 [v0, v1, v2, v3, v4] st A Q ↔ XX d 237 66 [v0, v1, v2, v3, v4] (.int (w (-1)) :: st) A Q := c_stk i_237_65 rfl
theorem q_237_66 : XX d 237 66 [v0, v1, v2, v3, v4] (.int x :: .ref a :: st) (mk S I L R G) Q ↔ S a = some (.inr 12) ∧ XX d 237 69 [v0, v1, v2, v3, v4] st (mk S (wr I a (up (I a) 22 x)) L R G) Q := r_pf i_237_66 rfl (by decide) rfl rfl rfl
theorem q_237_69 : XX d 237 69 [some (.ref a), v1, v2, v3, v4] st A Q ↔ XX d 237 70 [some (.ref a), v1, v2, v3, v4] (.ref a :: st) A Q := c_lcl i_237_69 rfl rfl
theorem q_237_70 : XX d 237 70 [v0, some (.int x), v2, v3, v4] st A Q ↔ XX d 237 71 [v0, some (.int x), v2, v3, v4] (.int x :: st) A Q := c_lcl i_237_70 rfl rfl
theorem q_237_71 : XX (d + 1) 237 71 [v0, v1, v2, v3, v4] [.int x1, .ref a0] (mk S I L R G) Q ↔ S a0 = some (.inr 12) ∧ XC d 194 [.ref a0, .int x1] (mk S I L R G) (XK (d + 1) 237 71 [v0, v1, v2, v3, v4] [] Q) := c_callV i_237_71 rfl rfl rfl rfl (Nat.le_of_ble_eq_true rfl) (Nat.le_of_ble_eq_true rfl) rfl
theorem q_237_74 : XX d 237 74 [v0, v1, some (.int x), v3, v4] st A Q ↔ XX d 237 75 [v0, v1, some (.int x), v3, v4] (.int x :: st) A Q := c_lcl i_237_74 rfl rfl
theorem q_237_75 : XX d 237 75 [some (.ref a), v1, v2, v3, v4] st A Q ↔ XX d 237 76 [some (.ref a), v1, v2, v3, v4] (.ref a :: st) A Q := c_lcl i_237_75 rfl rfl
theorem q_237_76 : XX (d + 1) 237 76 [v0, v1, v2, v3, v4] [.ref a0, .int x1] (mk S I L R G) Q ↔ S a0 = some (.inr 12) ∧ XC d 199 [.ref a0] (mk S I L R G) (XK (d + 1) 237 76 [v0, v1, v2, v3, v4] [.int x1] Q) := c_callV i_237_76 rfl rfl rfl rfl (Nat.le_of_ble_eq_true rfl) (Nat.le_of_ble_eq_true rfl) rfl
theorem q_237_79 : XX d 237 79 [v0, v1, v2, v3, v4] (.int x :: st) A Q ↔ if x = w 0 then XX d 237 82 [v0, v1, v2, v3, v4] st A Q else XX d 237 89 [v0, v1, v2, v3, v4] st A Q := z_ne i_237_79 rfl rfl rfl
theorem q_237_82 : XX d 237 82 [v0, v1, v2, v3, v4] st A Q ↔ XX d 237 83 [v0, v1, v2, v3, v4] (.int (w 1) :: st) A Q := c_stk i_237_82 rfl
theorem q_237_83 : XX d 237 83 [v0, v1, v2, v3, some (.int x)] st A Q ↔ XX d 237 85 [v0, v1, v2, v3, some (.int x)] (.int x :: st) A Q := c_lcl i_237_83 rfl rfl
theorem q_237_85 : XX d 237 85 [v0, v1, v2, v3, v4] (.int y :: .int x :: st) A Q ↔ XX d 237 86 [v0, v1, v2, v3, v4] (.int (x <<< (y &&& 31)) :: st) A Q := c_stk i_237_85 rfl
theorem q_237_86 : XX d 237 86 [v0, v1, v2, v3, v4] st A Q ↔ XX d 237 90 [v0, v1, v2, v3, v4] st A Q := c_go i_237_86 rfl rfl
theorem q_237_89 : XX d 237 89 [v0, v1, v2, v3, v4] st A Q ↔ XX d 237 90 [v0, v1, v2, v3, v4] (.int (w 0) :: st) A Q := c_stk i_237_89 rfl
theorem q_237_90 : XX d 237 90 [v0, v1, v2, v3, v4] (.int y :: .int x :: st) A Q ↔ XX d 237 91 [v0, v1, v2, v3, v4] (.int (x ||| y) :: st) A Q := c_stk i_237_90 rfl
theorem q_237_91 : XX d 237 91 [v0, some (.int z), v2, v3, v4] (.int x :: st) A Q ↔ XX d 237 92 [v0, some (.int z), some (.int x), v3, v4] st A Q := c_lcl i_237_91 rfl rfl
theorem q_237_92 : XX d 237 92 [some (.ref a), v1, v2, v3, v4] st A Q ↔ XX d 237 93 [some (.ref a), v1, v2, v3, v4] (.ref a :: st) A Q := c_lcl i_237_92 rfl rfl
theorem q_237_93 : XX d 237 93 [v0, v1, v2, v3, v4] st A Q ↔ XX d 237 94 [v0, v1, v2, v3, v4] (.int (w 2) :: st) A Q := c_stk i_237_93 rfl
theorem q_237_94 : XX d 237 94 [v0, some (.int x), v2, v3, v4] st A Q ↔ XX d 237 95 [v0, some (.int x), v2, v3, v4] (.int x :: st) A Q := c_lcl i_237_94 rfl rfl
theorem q_237_95 : XX (d + 1) 237 95 [v0, v1, v2, v3, v4] [.int x2, .int x1, .ref a0] (mk S I L R G) Q ↔ S a0 = some (.inr 12) ∧ XC d 174 [.ref a0, .int x1, .int x2] (mk S I L R G) (XK (d + 1) 237 95 [v0, v1, v2, v3, v4] [] Q) := c_callV i_237_95 rfl rfl rfl rfl (Nat.le_of_ble_eq_true rfl) (Nat.le_of_ble_eq_true rfl) rfl
theorem q_237_98 : XX d 237 98 [v0, v1, v2, some (.int z), some (.int x)] st A Q ↔ XX d 237 101 [v0, v1, v2, some (.int z), some (.int (x + w 1))] st A Q := c_lcl i_237_98 rfl rfl
theorem q_237_101 : XX d 237 101 [v0, v1, v2, v3, v4] st A Q ↔ XX d 237 45 [v0, v1, v2, v3, v4] st A Q := c_go i_237_101 rfl rfl
theorem q_237_104 : XX d 237 104 [some (.ref a), v1, v2, v3, v4] st A Q ↔ XX d 237 105 [some (.ref a), v1, v2, v3, v4] (.ref a :: st) A Q := c_lcl i_237_104 rfl rfl
theorem q_237_105 : XX d 237 105 [v0, v1, v2, v3, v4] st A Q ↔ XX d 237 106 [v0, v1, v2, v3, v4] (.int (w (-1)) :: st) A Q := c_stk i_237_105 rfl
theorem q_237_106 : XX d 237 106 [v0, v1, v2, v3, v4] (.int x :: .ref a :: st) (mk S I L R G) Q ↔ S a = some (.inr 12) ∧ XX d 237 109 [v0, v1, v2, v3, v4] st (mk S (wr I a (up (I a) 22 x)) L R G) Q := r_pf i_237_106 rfl (by decide) rfl rfl rfl
theorem q_237_109 : XX d 237 109 [v0, v1, some (.int x), v3, v4] st A Q ↔ XX d 237 110 [v0, v1, some (.int x), v3, v4] (.int x :: st) A Q := c_lcl i_237_109 rfl rfl
theorem q_237_110 : XX d 237 110 [v0, v1, v2, v3, v4] [.int x] A Q ↔ Q (.inl (some (.int x))) A := e_retI i_237_110 rfl
theorem q_237_e : XC d 237 [.ref a0, .int x1] A Q ↔ XX d 237 0 [some (.ref a0), some (.int x1), none, none, none] [] A Q := Iff.rfl
theorem i_238_0 : t_ins 238 0 = some (.aload_n 0) := by decide +kernel
theorem i_238_1 : t_ins 238 1 = some (.iconst 0) := by decide +kernel
theorem i_238_2 : t_ins 238 2 = some (.putfield 121) := by decide +kernel
theorem i_238_5 : t_ins 238 5 = some (.aload_n 0) := by decide +kernel
theorem i_238_6 : t_ins 238 6 = some (.iload_n 1) := by decide +kernel
theorem i_238_7 : t_ins 238 7 = some (.invokestatic 245) := by decide +kernel
theorem i_238_10 : t_ins 238 10 = some (.ifCond .ne 7) := by decide +kernel
theorem i_238_13 : t_ins 238 13 = some (.iconst 1) := by decide +kernel
theorem i_238_14 : t_ins 238 14 = some (.goto 4) := by decide +kernel
theorem i_238_17 : t_ins 238 17 = some (.iconst 0) := by decide +kernel
theorem i_238_18 : t_ins 238 18 = some (.iconst 1) := by decide +kernel
theorem i_238_19 : t_ins 238 19 = some (.iconst 0) := by decide +kernel
theorem i_238_20 : t_ins 238 20 = some (.invokevirtual 234) := by decide +kernel
theorem i_238_23 : t_ins 238 23 = some (.ifCond .eq 5) := by decide +kernel
theorem i_238_26 : t_ins 238 26 = some (.lconst 0) := by decide +kernel
theorem i_238_27 : t_ins 238 27 = some (.lreturn) := by decide +kernel
theorem i_238_28 : t_ins 238 28 = some (.aload_n 0) := by decide +kernel
theorem i_238_29 : t_ins 238 29 = some (.iload_n 1) := by decide +kernel
theorem i_238_30 : t_ins 238 30 = some (.invokevirtual 301) := by decide +kernel
theorem i_238_33 : t_ins 238 33 = some (.lconst 0) := by decide +kernel
theorem i_238_34 : t_ins 238 34 = some (.lstore_n 2) := by decide +kernel
theorem i_238_35 : t_ins 238 35 = some (.iconst 0) := by decide +kernel
theorem i_238_36 : t_ins 238 36 = some (.istore 4) := by decide +kernel
theorem i_238_38 : t_ins 238 38 = some (.iload 4) := by decide +kernel
theorem i_238_40 : t_ins 238 40 = some (.aload_n 0) := by decide +kernel
theorem i_238_41 : t_ins 238 41 = some (.getfield 36) := by decide +kernel
theorem i_238_44 : t_ins 238 44 = some (.if_icmp .gt 78) := by decide +kernel
theorem i_238_47 : t_ins 238 47 = some (.aload_n 0) := by decide +kernel
theorem i_238_48 : t_ins 238 48 = some (.getfield 61) := by decide +kernel
theorem i_238_51 : t_ins 238 51 = some (.iload 4) := by decide +kernel
theorem i_238_53 : t_ins 238 53 = some (.iaload) := by decide +kernel
theorem i_238_54 : t_ins 238 54 = some (.iconst (-1)) := by decide +kernel
theorem i_238_55 : t_ins 238 55 = some (.if_icmp .ne 7) := by decide +kernel
theorem i_238_58 : t_ins 238 58 = some (.iconst 1) := by decide +kernel
theorem i_238_59 : t_ins 238 59 = some (.goto 4) := by decide +kernel
theorem i_238_62 : t_ins 238 62 = some (.iconst 0) := by decide +kernel
theorem i_238_63 : t_ins 238 63 = some (.istore 5) := by decide +kernel
theorem i_238_65 : t_ins 238 65 = some (.iconst 0) := by decide +kernel
theorem i_238_66 : t_ins 238 66 = some (.istore 6) := by decide +kernel
theorem i_238_68 : t_ins 238 68 = some (.iload 6) := by decide +kernel
theorem i_238_70 : t_ins 238 70 = some (.aload_n 0) := by decide +kernel
theorem i_238_71 : t_ins 238 71 = some (.getfield 61) := by decide +kernel
theorem i_238_74 : t_ins 238 74 = some (.iload 4) := by decide +kernel
theorem i_238_76 : t_ins 238 76 = some (.iaload) := by decide +kernel
theorem i_238_77 : t_ins 238 77 = some (.if_icmp .ge 29) := by decide +kernel
theorem i_238_80 : t_ins 238 80 = some (.iload 5) := by decide +kernel
theorem i_238_82 : t_ins 238 82 = some (.aload_n 0) := by decide +kernel
theorem i_238_83 : t_ins 238 83 = some (.getfield 55) := by decide +kernel
theorem i_238_86 : t_ins 238 86 = some (.aload_n 0) := by decide +kernel
theorem i_238_87 : t_ins 238 87 = some (.getfield 58) := by decide +kernel
theorem i_238_90 : t_ins 238 90 = some (.iload 4) := by decide +kernel
theorem i_238_92 : t_ins 238 92 = some (.iaload) := by decide +kernel
theorem i_238_93 : t_ins 238 93 = some (.iload 6) := by decide +kernel
theorem i_238_95 : t_ins 238 95 = some (.iadd) := by decide +kernel
theorem i_238_96 : t_ins 238 96 = some (.baload) := by decide +kernel
theorem i_238_97 : t_ins 238 97 = some (.iadd) := by decide +kernel
theorem i_238_98 : t_ins 238 98 = some (.istore 5) := by decide +kernel
theorem i_238_100 : t_ins 238 100 = some (.iinc 6 1) := by decide +kernel
theorem i_238_103 : t_ins 238 103 = some (.goto (-35)) := by decide +kernel
theorem i_238_106 : t_ins 238 106 = some (.ldc2_w 385) := by decide +kernel
theorem i_238_109 : t_ins 238 109 = some (.lload_n 2) := by decide +kernel
theorem i_238_110 : t_ins 238 110 = some (.lmul) := by decide +kernel
theorem i_238_111 : t_ins 238 111 = some (.iload 5) := by decide +kernel
theorem i_238_113 : t_ins 238 113 = some (.i2l) := by decide +kernel
theorem i_238_114 : t_ins 238 114 = some (.ladd) := by decide +kernel
theorem i_238_115 : t_ins 238 115 = some (.lstore_n 2) := by decide +kernel
theorem i_238_116 : t_ins 238 116 = some (.iinc 4 1) := by decide +kernel
theorem i_238_119 : t_ins 238 119 = some (.goto (-81)) := by decide +kernel
theorem i_238_122 : t_ins 238 122 = some (.lload_n 2) := by decide +kernel
theorem i_238_123 : t_ins 238 123 = some (.lreturn) := by decide +kernel
theorem q_238_0 : XX d 238 0 [some (.ref a), v1, v2, v3, v4, v5, v6] st A Q ↔ XX d 238 1 [some (.ref a), v1, v2, v3, v4, v5, v6] (.ref a :: st) A Q := c_lcl i_238_0 rfl rfl
theorem q_238_1 : XX d 238 1 [v0, v1, v2, v3, v4, v5, v6] st A Q ↔ XX d 238 2 [v0, v1, v2, v3, v4, v5, v6] (.int (w 0) :: st) A Q := c_stk i_238_1 rfl
theorem q_238_2 : XX d 238 2 [v0, v1, v2, v3, v4, v5, v6] (.int x :: .ref a :: st) (mk S I L R G) Q ↔ S a = some (.inr 12) ∧ XX d 238 5 [v0, v1, v2, v3, v4, v5, v6] st (mk S (wr I a (up (I a) 0 x)) L R G) Q := r_pf i_238_2 rfl (by decide) rfl rfl rfl
theorem q_238_5 : XX d 238 5 [some (.ref a), v1, v2, v3, v4, v5, v6] st A Q ↔ XX d 238 6 [some (.ref a), v1, v2, v3, v4, v5, v6] (.ref a :: st) A Q := c_lcl i_238_5 rfl rfl
theorem q_238_6 : XX d 238 6 [v0, some (.int x), v2, v3, v4, v5, v6] st A Q ↔ XX d 238 7 [v0, some (.int x), v2, v3, v4, v5, v6] (.int x :: st) A Q := c_lcl i_238_6 rfl rfl
theorem q_238_7 : XX (d + 1) 238 7 [v0, v1, v2, v3, v4, v5, v6] [.int x0, .ref a1] A Q ↔ XC d 182 [.int x0] A (XK (d + 1) 238 7 [v0, v1, v2, v3, v4, v5, v6] [.ref a1] Q) := c_callS i_238_7 rfl rfl rfl rfl (Nat.le_of_ble_eq_true rfl) (Nat.le_of_ble_eq_true rfl)
theorem q_238_10 : XX d 238 10 [v0, v1, v2, v3, v4, v5, v6] (.int x :: st) A Q ↔ if x = w 0 then XX d 238 13 [v0, v1, v2, v3, v4, v5, v6] st A Q else XX d 238 17 [v0, v1, v2, v3, v4, v5, v6] st A Q := z_ne i_238_10 rfl rfl rfl
theorem q_238_13 : XX d 238 13 [v0, v1, v2, v3, v4, v5, v6] st A Q ↔ XX d 238 14 [v0, v1, v2, v3, v4, v5, v6] (.int (w 1) :: st) A Q := c_stk i_238_13 rfl
theorem q_238_14 : XX d 238 14 [v0, v1, v2, v3, v4, v5, v6] st A Q ↔ XX d 238 18 [v0, v1, v2, v3, v4, v5, v6] st A Q := c_go i_238_14 rfl rfl
theorem q_238_17 : XX d 238 17 [v0, v1, v2, v3, v4, v5, v6] st A Q ↔ XX d 238 18 [v0, v1, v2, v3, v4, v5, v6] (.int (w 0) :: st) A Q := c_stk i_238_17 rfl
theorem q_238_18 : XX d 238 18 [v0, v1, v2, v3, v4, v5, v6] st A Q ↔ XX d 238 19 [v0, v1, v2, v3, v4, v5, v6] (.int (w 1) :: st) A Q := c_stk i_238_18 rfl
theorem q_238_19 : XX d 238 19 [v0, v1, v2, v3, v4, v5, v6] st A Q ↔ XX d 238 20 [v0, v1, v2, v3, v4, v5, v6] (.int (w 0) :: st) A Q := c_stk i_238_19 rfl
theorem q_238_20 : XX (d + 1) 238 20 [v0, v1, v2, v3, v4, v5, v6] [.int x3, .int x2, .int x1, .ref a0] (mk S I L R G) Q ↔ S a0 = some (.inr 12) ∧ XC d 154 [.ref a0, .int x1, .int x2, .int x3] (mk S I L R G) (XK (d + 1) 238 20 [v0, v1, v2, v3, v4, v5, v6] [] Q) := c_callV i_238_20 rfl rfl rfl rfl (Nat.le_of_ble_eq_true rfl) (Nat.le_of_ble_eq_true rfl) rfl
theorem q_238_23 : XX d 238 23 [v0, v1, v2, v3, v4, v5, v6] (.int x :: st) A Q ↔ if x = w 0 then XX d 238 28 [v0, v1, v2, v3, v4, v5, v6] st A Q else XX d 238 26 [v0, v1, v2, v3, v4, v5, v6] st A Q := z_eq i_238_23 rfl rfl rfl
theorem q_238_26 : XX d 238 26 [v0, v1, v2, v3, v4, v5, v6] st A Q ↔ XX d 238 27 [v0, v1, v2, v3, v4, v5, v6] (.long (wl 0) :: st) A Q := c_stk i_238_26 rfl
theorem q_238_27 : XX d 238 27 [v0, v1, v2, v3, v4, v5, v6] [.long lx] A Q ↔ Q (.inl (some (.long lx))) A := e_retL i_238_27 rfl
theorem q_238_28 : XX d 238 28 [some (.ref a), v1, v2, v3, v4, v5, v6] st A Q ↔ XX d 238 29 [some (.ref a), v1, v2, v3, v4, v5, v6] (.ref a :: st) A Q := c_lcl i_238_28 rfl rfl
theorem q_238_29 : XX d 238 29 [v0, some (.int x), v2, v3, v4, v5, v6] st A Q ↔ XX d 238 30 [v0, some (.int x), v2, v3, v4, v5, v6] (.int x :: st) A Q := c_lcl i_238_29 rfl rfl
theorem q_238_30 : XX (d + 1) 238 30 [v0, v1, v2, v3, v4, v5, v6] [.int x1, .ref a0] (mk S I L R G) Q ↔ S a0 = some (.inr 12) ∧ XC d 194 [.ref a0, .int x1] (mk S I L R G) (XK (d + 1) 238 30 [v0, v1, v2, v3, v4, v5, v6] [] Q) := c_callV i_238_30 rfl rfl rfl rfl (Nat.le_of_ble_eq_true rfl) (Nat.le_of_ble_eq_true rfl) rfl
theorem q_238_33 : XX d 238 33 [v0, v1, v2, v3, v4, v5, v6] st A Q ↔ XX d 238 34 [v0, v1, v2, v3, v4, v5, v6] (.long (wl 0) :: st) A Q := c_stk i_238_33 rfl
theorem q_238_34 : XX d 238 34 [v0, some (.int z), v2, v3, v4, v5, v6] (.long lx :: st) A Q ↔ XX d 238 35 [v0, some (.int z), some (.long lx), none, v4, v5, v6] st A Q := c_lcl i_238_34 rfl rfl
theorem q_238_35 : XX d 238 35 [v0, v1, v2, v3, v4, v5, v6] st A Q ↔ XX d 238 36 [v0, v1, v2, v3, v4, v5, v6] (.int (w 0) :: st) A Q := c_stk i_238_35 rfl
theorem q_238_36 : XX d 238 36 [v0, v1, v2, none, v4, v5, v6] (.int x :: st) A Q ↔ XX d 238 38 [v0, v1, v2, none, some (.int x), v5, v6] st A Q := c_lcl i_238_36 rfl rfl
theorem q_238_38 : XX d 238 38 [v0, v1, v2, v3, some (.int x), v5, v6] st A Q ↔ XX d 238 40 [v0, v1, v2, v3, some (.int x), v5, v6] (.int x :: st) A Q := c_lcl i_238_38 rfl rfl
theorem q_238_40 : XX d 238 40 [some (.ref a), v1, v2, v3, v4, v5, v6] st A Q ↔ XX d 238 41 [some (.ref a), v1, v2, v3, v4, v5, v6] (.ref a :: st) A Q := c_lcl i_238_40 rfl rfl
theorem q_238_41 : XX d 238 41 [v0, v1, v2, v3, v4, v5, v6] (.ref a :: st) (mk S I L R G) Q ↔ S a = some (.inr 12) ∧ XX d 238 44 [v0, v1, v2, v3, v4, v5, v6] (.int (I a 13) :: st) (mk S I L R G) Q := r_gf i_238_41 rfl (by decide) rfl
theorem q_238_44 : XX d 238 44 [v0, v1, v2, v3, v4, v5, v6] (.int y :: .int x :: st) A Q ↔ if y < x then XX d 238 122 [v0, v1, v2, v3, v4, v5, v6] st A Q else XX d 238 47 [v0, v1, v2, v3, v4, v5, v6] st A Q := b_gt i_238_44 rfl rfl rfl
theorem q_238_47 : XX d 238 47 [some (.ref a), v1, v2, v3, v4, v5, v6] st A Q ↔ XX d 238 48 [some (.ref a), v1, v2, v3, v4, v5, v6] (.ref a :: st) A Q := c_lcl i_238_47 rfl rfl
theorem q_238_48 : XX d 238 48 [v0, v1, v2, v3, v4, v5, v6] (.ref a :: st) (mk S I L R G) Q ↔ S a = some (.inr 12) ∧ XX d 238 51 [v0, v1, v2, v3, v4, v5, v6] (.ref (a + 6579) :: st) (mk S I L R G) Q := r_gf i_238_48 rfl (by decide) rfl
theorem q_238_51 : XX d 238 51 [v0, v1, v2, v3, some (.int x), v5, v6] st A Q ↔ XX d 238 53 [v0, v1, v2, v3, some (.int x), v5, v6] (.int x :: st) A Q := c_lcl i_238_51 rfl rfl
theorem q_238_53 : XX d 238 53 [v0, v1, v2, v3, v4, v5, v6] (.int x :: .ref a :: st) (mk S I L R G) Q ↔ inA (S a) ok_i x ∧ XX d 238 54 [v0, v1, v2, v3, v4, v5, v6] (.int (I a (ix x)) :: st) (mk S I L R G) Q := r_ia i_238_53
theorem q_238_54 : XX d 238 54 [v0, v1, v2, v3, v4, v5, v6] st A Q ↔ XX d 238 55 [v0, v1, v2, v3, v4, v5, v6] (.int (w (-1)) :: st) A Q := c_stk i_238_54 rfl
theorem q_238_55 : XX d 238 55 [v0, v1, v2, v3, v4, v5, v6] (.int y :: .int x :: st) A Q ↔ if x = y then XX d 238 58 [v0, v1, v2, v3, v4, v5, v6] st A Q else XX d 238 62 [v0, v1, v2, v3, v4, v5, v6] st A Q := b_ne i_238_55 rfl rfl rfl
theorem q_238_58 : XX d 238 58 [v0, v1, v2, v3, v4, v5, v6] st A Q ↔ XX d 238 59 [v0, v1, v2, v3, v4, v5, v6] (.int (w 1) :: st) A Q := c_stk i_238_58 rfl
theorem q_238_59 : XX d 238 59 [v0, v1, v2, v3, v4, v5, v6] st A Q ↔ XX d 238 63 [v0, v1, v2, v3, v4, v5, v6] st A Q := c_go i_238_59 rfl rfl
theorem q_238_62 : XX d 238 62 [v0, v1, v2, v3, v4, v5, v6] st A Q ↔ XX d 238 63 [v0, v1, v2, v3, v4, v5, v6] (.int (w 0) :: st) A Q := c_stk i_238_62 rfl
theorem q_238_63 : XX d 238 63 [v0, v1, v2, v3, some (.int z), v5, v6] (.int x :: st) A Q ↔ XX d 238 65 [v0, v1, v2, v3, some (.int z), some (.int x), v6] st A Q := c_lcl i_238_63 rfl rfl
theorem q_238_65 : XX d 238 65 [v0, v1, v2, v3, v4, v5, v6] st A Q ↔ XX d 238 66 [v0, v1, v2, v3, v4, v5, v6] (.int (w 0) :: st) A Q := c_stk i_238_65 rfl
theorem q_238_66 : XX d 238 66 [v0, v1, v2, v3, v4, some (.int z), v6] (.int x :: st) A Q ↔ XX d 238 68 [v0, v1, v2, v3, v4, some (.int z), some (.int x)] st A Q := c_lcl i_238_66 rfl rfl
theorem q_238_68 : XX d 238 68 [v0, v1, v2, v3, v4, v5, some (.int x)] st A Q ↔ XX d 238 70 [v0, v1, v2, v3, v4, v5, some (.int x)] (.int x :: st) A Q := c_lcl i_238_68 rfl rfl
theorem q_238_70 : XX d 238 70 [some (.ref a), v1, v2, v3, v4, v5, v6] st A Q ↔ XX d 238 71 [some (.ref a), v1, v2, v3, v4, v5, v6] (.ref a :: st) A Q := c_lcl i_238_70 rfl rfl
theorem q_238_71 : XX d 238 71 [v0, v1, v2, v3, v4, v5, v6] (.ref a :: st) (mk S I L R G) Q ↔ S a = some (.inr 12) ∧ XX d 238 74 [v0, v1, v2, v3, v4, v5, v6] (.ref (a + 6579) :: st) (mk S I L R G) Q := r_gf i_238_71 rfl (by decide) rfl
theorem q_238_74 : XX d 238 74 [v0, v1, v2, v3, some (.int x), v5, v6] st A Q ↔ XX d 238 76 [v0, v1, v2, v3, some (.int x), v5, v6] (.int x :: st) A Q := c_lcl i_238_74 rfl rfl
theorem q_238_76 : XX d 238 76 [v0, v1, v2, v3, v4, v5, v6] (.int x :: .ref a :: st) (mk S I L R G) Q ↔ inA (S a) ok_i x ∧ XX d 238 77 [v0, v1, v2, v3, v4, v5, v6] (.int (I a (ix x)) :: st) (mk S I L R G) Q := r_ia i_238_76
theorem q_238_77 : XX d 238 77 [v0, v1, v2, v3, v4, v5, v6] (.int y :: .int x :: st) A Q ↔ if x < y then XX d 238 80 [v0, v1, v2, v3, v4, v5, v6] st A Q else XX d 238 106 [v0, v1, v2, v3, v4, v5, v6] st A Q := b_ge i_238_77 rfl rfl rfl
theorem q_238_80 : XX d 238 80 [v0, v1, v2, v3, v4, some (.int x), v6] st A Q ↔ XX d 238 82 [v0, v1, v2, v3, v4, some (.int x), v6] (.int x :: st) A Q := c_lcl i_238_80 rfl rfl
theorem q_238_82 : XX d 238 82 [some (.ref a), v1, v2, v3, v4, v5, v6] st A Q ↔ XX d 238 83 [some (.ref a), v1, v2, v3, v4, v5, v6] (.ref a :: st) A Q := c_lcl i_238_82 rfl rfl
theorem q_238_83 : XX d 238 83 [v0, v1, v2, v3, v4, v5, v6] (.ref a :: st) (mk S I L R G) Q ↔ S a = some (.inr 12) ∧ XX d 238 86 [v0, v1, v2, v3, v4, v5, v6] (.ref (a + 6577) :: st) (mk S I L R G) Q := r_gf i_238_83 rfl (by decide) rfl
theorem q_238_86 : XX d 238 86 [some (.ref a), v1, v2, v3, v4, v5, v6] st A Q ↔ XX d 238 87 [some (.ref a), v1, v2, v3, v4, v5, v6] (.ref a :: st) A Q := c_lcl i_238_86 rfl rfl
theorem q_238_87 : XX d 238 87 [v0, v1, v2, v3, v4, v5, v6] (.ref a :: st) (mk S I L R G) Q ↔ S a = some (.inr 12) ∧ XX d 238 90 [v0, v1, v2, v3, v4, v5, v6] (.ref (a + 6578) :: st) (mk S I L R G) Q := r_gf i_238_87 rfl (by decide) rfl
theorem q_238_90 : XX d 238 90 [v0, v1, v2, v3, some (.int x), v5, v6] st A Q ↔ XX d 238 92 [v0, v1, v2, v3, some (.int x), v5, v6] (.int x :: st) A Q := c_lcl i_238_90 rfl rfl
theorem q_238_92 : XX d 238 92 [v0, v1, v2, v3, v4, v5, v6] (.int x :: .ref a :: st) (mk S I L R G) Q ↔ inA (S a) ok_i x ∧ XX d 238 93 [v0, v1, v2, v3, v4, v5, v6] (.int (I a (ix x)) :: st) (mk S I L R G) Q := r_ia i_238_92
theorem q_238_93 : XX d 238 93 [v0, v1, v2, v3, v4, v5, some (.int x)] st A Q ↔ XX d 238 95 [v0, v1, v2, v3, v4, v5, some (.int x)] (.int x :: st) A Q := c_lcl i_238_93 rfl rfl
theorem q_238_95 : XX d 238 95 [v0, v1, v2, v3, v4, v5, v6] (.int y :: .int x :: st) A Q ↔ XX d 238 96 [v0, v1, v2, v3, v4, v5, v6] (.int (x + y) :: st) A Q := c_stk i_238_95 rfl
theorem q_238_96 : XX d 238 96 [v0, v1, v2, v3, v4, v5, v6] (.int x :: .ref a :: st) (mk S I L R G) Q ↔ inA (S a) ok_b x ∧ XX d 238 97 [v0, v1, v2, v3, v4, v5, v6] (.int (I a (ix x)) :: st) (mk S I L R G) Q := r_ba i_238_96
theorem q_238_97 : XX d 238 97 [v0, v1, v2, v3, v4, v5, v6] (.int y :: .int x :: st) A Q ↔ XX d 238 98 [v0, v1, v2, v3, v4, v5, v6] (.int (x + y) :: st) A Q := c_stk i_238_97 rfl
theorem q_238_98 : XX d 238 98 [v0, v1, v2, v3, some (.int z), v5, v6] (.int x :: st) A Q ↔ XX d 238 100 [v0, v1, v2, v3, some (.int z), some (.int x), v6] st A Q := c_lcl i_238_98 rfl rfl
theorem q_238_100 : XX d 238 100 [v0, v1, v2, v3, v4, some (.int z), some (.int x)] st A Q ↔ XX d 238 103 [v0, v1, v2, v3, v4, some (.int z), some (.int (x + w 1))] st A Q := c_lcl i_238_100 rfl rfl
theorem q_238_103 : XX d 238 103 [v0, v1, v2, v3, v4, v5, v6] st A Q ↔ XX d 238 68 [v0, v1, v2, v3, v4, v5, v6] st A Q := c_go i_238_103 rfl rfl
theorem q_238_106 : XX d 238 106 [v0, v1, v2, v3, v4, v5, v6] st A Q ↔ XX d 238 109 [v0, v1, v2, v3, v4, v5, v6] (.long (wl 31) :: st) A Q := r_ld2 i_238_106 rfl
theorem q_238_109 : XX d 238 109 [v0, v1, some (.long lx), v3, v4, v5, v6] st A Q ↔ XX d 238 110 [v0, v1, some (.long lx), v3, v4, v5, v6] (.long lx :: st) A Q := c_lcl i_238_109 rfl rfl
theorem q_238_110 : XX d 238 110 [v0, v1, v2, v3, v4, v5, v6] (.long ly :: .long lx :: st) A Q ↔ XX d 238 111 [v0, v1, v2, v3, v4, v5, v6] (.long (lx * ly) :: st) A Q := c_stk i_238_110 rfl
theorem q_238_111 : XX d 238 111 [v0, v1, v2, v3, v4, some (.int x), v6] st A Q ↔ XX d 238 113 [v0, v1, v2, v3, v4, some (.int x), v6] (.int x :: st) A Q := c_lcl i_238_111 rfl rfl
theorem q_238_113 : XX d 238 113 [v0, v1, v2, v3, v4, v5, v6] (.int x :: st) A Q ↔ XX d 238 114 [v0, v1, v2, v3, v4, v5, v6] (.long x.toInt64 :: st) A Q := c_stk i_238_113 rfl
theorem q_238_114 : XX d 238 114 [v0, v1, v2, v3, v4, v5, v6] (.long ly :: .long lx :: st) A Q ↔ XX d 238 115 [v0, v1, v2, v3, v4, v5, v6] (.long (lx + ly) :: st) A Q := c_stk i_238_114 rfl
theorem q_238_115 : XX d 238 115 [v0, some (.int z), v2, v3, v4, v5, v6] (.long lx :: st) A Q ↔ XX d 238 116 [v0, some (.int z), some (.long lx), none, v4, v5, v6] st A Q := c_lcl i_238_115 rfl rfl
theorem q_238_116 : XX d 238 116 [v0, v1, v2, none, some (.int x), v5, v6] st A Q ↔ XX d 238 119 [v0, v1, v2, none, some (.int (x + w 1)), v5, v6] st A Q := c_lcl i_238_116 rfl rfl
theorem q_238_119 : XX d 238 119 [v0, v1, v2, v3, v4, v5, v6] st A Q ↔ XX d 238 38 [v0, v1, v2, v3, v4, v5, v6] st A Q := c_go i_238_119 rfl rfl
theorem q_238_122 : XX d 238 122 [v0, v1, some (.long lx), v3, v4, v5, v6] st A Q ↔ XX d 238 123 [v0, v1, some (.long lx), v3, v4, v5, v6] (.long lx :: st) A Q := c_lcl i_238_122 rfl rfl
theorem q_238_123 : XX d 238 123 [v0, v1, v2, v3, v4, v5, v6] [.long lx] A Q ↔ Q (.inl (some (.long lx))) A := e_retL i_238_123 rfl
theorem q_238_e : XC d 238 [.ref a0, .int x1] A Q ↔ XX d 238 0 [some (.ref a0), some (.int x1), none, none, none, none, none] [] A Q := Iff.rfl
theorem i_239_0 : t_ins 239 0 = some (.aload_n 0) := by decide +kernel
theorem i_239_1 : t_ins 239 1 = some (.iconst 0) := by decide +kernel
theorem i_239_2 : t_ins 239 2 = some (.putfield 121) := by decide +kernel
theorem i_239_5 : t_ins 239 5 = some (.iload_n 1) := by decide +kernel
theorem i_239_6 : t_ins 239 6 = some (.iconst 0) := by decide +kernel
theorem i_239_7 : t_ins 239 7 = some (.iconst 1) := by decide +kernel
theorem i_239_8 : t_ins 239 8 = some (.invokestatic 230) := by decide +kernel
theorem i_239_11 : t_ins 239 11 = some (.ifCond .eq 12) := by decide +kernel
theorem i_239_14 : t_ins 239 14 = some (.aload_n 0) := by decide +kernel
theorem i_239_15 : t_ins 239 15 = some (.getfield 9) := by decide +kernel
theorem i_239_18 : t_ins 239 18 = some (.iload_n 1) := by decide +kernel
theorem i_239_19 : t_ins 239 19 = some (.iaload) := by decide +kernel
theorem i_239_20 : t_ins 239 20 = some (.goto 4) := by decide +kernel
theorem i_239_23 : t_ins 239 23 = some (.iconst (-1)) := by decide +kernel
theorem i_239_24 : t_ins 239 24 = some (.ireturn) := by decide +kernel
theorem q_239_0 : XX d 239 0 [some (.ref a), v1] st A Q ↔ XX d 239 1 [some (.ref a), v1] (.ref a :: st) A Q := c_lcl i_239_0 rfl rfl
theorem q_239_1 : XX d 239 1 [v0, v1] st A Q ↔ XX d 239 2 [v0, v1] (.int (w 0) :: st) A Q := c_stk i_239_1 rfl
theorem q_239_2 : XX d 239 2 [v0, v1] (.int x :: .ref a :: st) (mk S I L R G) Q ↔ S a = some (.inr 12) ∧ XX d 239 5 [v0, v1] st (mk S (wr I a (up (I a) 0 x)) L R G) Q := r_pf i_239_2 rfl (by decide) rfl rfl rfl
theorem q_239_5 : XX d 239 5 [v0, some (.int x)] st A Q ↔ XX d 239 6 [v0, some (.int x)] (.int x :: st) A Q := c_lcl i_239_5 rfl rfl
theorem q_239_6 : XX d 239 6 [v0, v1] st A Q ↔ XX d 239 7 [v0, v1] (.int (w 0) :: st) A Q := c_stk i_239_6 rfl
theorem q_239_7 : XX d 239 7 [v0, v1] st A Q ↔ XX d 239 8 [v0, v1] (.int (w 1) :: st) A Q := c_stk i_239_7 rfl
theorem q_239_8 : XX (d + 1) 239 8 [v0, v1] [.int x2, .int x1, .int x0] A Q ↔ XC d 155 [.int x0, .int x1, .int x2] A (XK (d + 1) 239 8 [v0, v1] [] Q) := c_callS i_239_8 rfl rfl rfl rfl (Nat.le_of_ble_eq_true rfl) (Nat.le_of_ble_eq_true rfl)
theorem q_239_11 : XX d 239 11 [v0, v1] (.int x :: st) A Q ↔ if x = w 0 then XX d 239 23 [v0, v1] st A Q else XX d 239 14 [v0, v1] st A Q := z_eq i_239_11 rfl rfl rfl
theorem q_239_14 : XX d 239 14 [some (.ref a), v1] st A Q ↔ XX d 239 15 [some (.ref a), v1] (.ref a :: st) A Q := c_lcl i_239_14 rfl rfl
theorem q_239_15 : XX d 239 15 [v0, v1] (.ref a :: st) (mk S I L R G) Q ↔ S a = some (.inr 12) ∧ XX d 239 18 [v0, v1] (.ref (a + 1) :: st) (mk S I L R G) Q := r_gf i_239_15 rfl (by decide) rfl
theorem q_239_18 : XX d 239 18 [v0, some (.int x)] st A Q ↔ XX d 239 19 [v0, some (.int x)] (.int x :: st) A Q := c_lcl i_239_18 rfl rfl
theorem q_239_19 : XX d 239 19 [v0, v1] (.int x :: .ref a :: st) (mk S I L R G) Q ↔ inA (S a) ok_i x ∧ XX d 239 20 [v0, v1] (.int (I a (ix x)) :: st) (mk S I L R G) Q := r_ia i_239_19
theorem q_239_20 : XX d 239 20 [v0, v1] st A Q ↔ XX d 239 24 [v0, v1] st A Q := c_go i_239_20 rfl rfl
theorem q_239_23 : XX d 239 23 [v0, v1] st A Q ↔ XX d 239 24 [v0, v1] (.int (w (-1)) :: st) A Q := c_stk i_239_23 rfl
theorem q_239_24 : XX d 239 24 [v0, v1] [.int x] A Q ↔ Q (.inl (some (.int x))) A := e_retI i_239_24 rfl
theorem q_239_e : XC d 239 [.ref a0, .int x1] A Q ↔ XX d 239 0 [some (.ref a0), some (.int x1)] [] A Q := Iff.rfl
theorem i_240_0 : t_ins 240 0 = some (.aload_n 2) := by decide +kernel
theorem i_240_1 : t_ins 240 1 = some (.iconst 0) := by decide +kernel
theorem i_240_2 : t_ins 240 2 = some (.aload_n 0) := by decide +kernel
theorem i_240_3 : t_ins 240 3 = some (.iload_n 1) := by decide +kernel
theorem i_240_4 : t_ins 240 4 = some (.invokevirtual 7) := by decide +kernel
theorem i_240_7 : t_ins 240 7 = some (.i2l) := by decide +kernel
theorem i_240_8 : t_ins 240 8 = some (.lastore) := by decide +kernel
theorem i_240_9 : t_ins 240 9 = some (.goto 6) := by decide +kernel
theorem i_240_12 : t_ins 240 12 = some (.astore_n 3) := by decide +kernel
theorem i_240_13 : t_ins 240 13 = some (.iconst 1) := by decide +kernel
theorem i_240_14 : t_ins 240 14 = some (.ireturn) := by decide +kernel
theorem i_240_15 : t_ins 240 15 = some (.iconst 0) := by decide +kernel
theorem i_240_16 : t_ins 240 16 = some (.ireturn) := by decide +kernel
theorem q_240_0 : XX d 240 0 [v0, v1, some (.ref a), v3] st A Q ↔ XX d 240 1 [v0, v1, some (.ref a), v3] (.ref a :: st) A Q := c_lcl i_240_0 rfl rfl
theorem q_240_1 : XX d 240 1 [v0, v1, v2, v3] st A Q ↔ XX d 240 2 [v0, v1, v2, v3] (.int (w 0) :: st) A Q := c_stk i_240_1 rfl
theorem q_240_2 : XX d 240 2 [some (.ref a), v1, v2, v3] st A Q ↔ XX d 240 3 [some (.ref a), v1, v2, v3] (.ref a :: st) A Q := c_lcl i_240_2 rfl rfl
theorem q_240_3 : XX d 240 3 [v0, some (.int x), v2, v3] st A Q ↔ XX d 240 4 [v0, some (.int x), v2, v3] (.int x :: st) A Q := c_lcl i_240_3 rfl rfl
theorem q_240_4 : XX (d + 1) 240 4 [v0, v1, v2, v3] [.int x1, .ref a0, .int x2, .ref a3] (mk S I L R G) Q ↔ S a0 = some (.inr 11) ∧ XC d 106 [.ref a0, .int x1] (mk S I L R G) (XK (d + 1) 240 4 [v0, v1, v2, v3] [.int x2, .ref a3] Q) := c_callV i_240_4 rfl rfl rfl rfl (Nat.le_of_ble_eq_true rfl) (Nat.le_of_ble_eq_true rfl) rfl
theorem q_240_7 : XX d 240 7 [v0, v1, v2, v3] (.int x :: st) A Q ↔ XX d 240 8 [v0, v1, v2, v3] (.long x.toInt64 :: st) A Q := c_stk i_240_7 rfl
theorem q_240_8 : XX d 240 8 [v0, v1, v2, v3] (.long ly :: .int x :: .ref a :: st) (mk S I L R G) Q ↔ inA (S a) ok_l x ∧ XX d 240 9 [v0, v1, v2, v3] st (mk S I (wr L a (up (L a) (ix x) ly)) R G) Q := r_las i_240_8
theorem q_240_9 : XX d 240 9 [v0, v1, v2, v3] st A Q ↔ XX d 240 15 [v0, v1, v2, v3] st A Q := c_go i_240_9 rfl rfl
theorem q_240_12 : XX d 240 12 [v0, v1, some (.ref b), v3] (.ref a :: st) A Q ↔ XX d 240 13 [v0, v1, some (.ref b), some (.ref a)] st A Q := c_lcl i_240_12 rfl rfl
theorem q_240_13 : XX d 240 13 [v0, v1, v2, v3] st A Q ↔ XX d 240 14 [v0, v1, v2, v3] (.int (w 1) :: st) A Q := c_stk i_240_13 rfl
theorem q_240_14 : XX d 240 14 [v0, v1, v2, v3] [.int x] A Q ↔ Q (.inl (some (.int x))) A := e_retI i_240_14 rfl
theorem q_240_15 : XX d 240 15 [v0, v1, v2, v3] st A Q ↔ XX d 240 16 [v0, v1, v2, v3] (.int (w 0) :: st) A Q := c_stk i_240_15 rfl
theorem q_240_16 : XX d 240 16 [v0, v1, v2, v3] [.int x] A Q ↔ Q (.inl (some (.int x))) A := e_retI i_240_16 rfl
theorem q_240_e : XC d 240 [.ref a0, .int x1, .ref a2] A Q ↔ XX d 240 0 [some (.ref a0), some (.int x1), some (.ref a2), none] [] A Q := Iff.rfl
theorem i_241_0 : t_ins 241 0 = some (.aload_n 2) := by decide +kernel
theorem i_241_1 : t_ins 241 1 = some (.iconst 0) := by decide +kernel
theorem i_241_2 : t_ins 241 2 = some (.aload_n 0) := by decide +kernel
theorem i_241_3 : t_ins 241 3 = some (.iload_n 1) := by decide +kernel
theorem i_241_4 : t_ins 241 4 = some (.invokevirtual 15) := by decide +kernel
theorem i_241_7 : t_ins 241 7 = some (.i2l) := by decide +kernel
theorem i_241_8 : t_ins 241 8 = some (.lastore) := by decide +kernel
theorem i_241_9 : t_ins 241 9 = some (.goto 6) := by decide +kernel
theorem i_241_12 : t_ins 241 12 = some (.astore_n 3) := by decide +kernel
theorem i_241_13 : t_ins 241 13 = some (.iconst 1) := by decide +kernel
theorem i_241_14 : t_ins 241 14 = some (.ireturn) := by decide +kernel
theorem i_241_15 : t_ins 241 15 = some (.iconst 0) := by decide +kernel
theorem i_241_16 : t_ins 241 16 = some (.ireturn) := by decide +kernel
theorem q_241_0 : XX d 241 0 [v0, v1, some (.ref a), v3] st A Q ↔ XX d 241 1 [v0, v1, some (.ref a), v3] (.ref a :: st) A Q := c_lcl i_241_0 rfl rfl
theorem q_241_1 : XX d 241 1 [v0, v1, v2, v3] st A Q ↔ XX d 241 2 [v0, v1, v2, v3] (.int (w 0) :: st) A Q := c_stk i_241_1 rfl
theorem q_241_2 : XX d 241 2 [some (.ref a), v1, v2, v3] st A Q ↔ XX d 241 3 [some (.ref a), v1, v2, v3] (.ref a :: st) A Q := c_lcl i_241_2 rfl rfl
theorem q_241_3 : XX d 241 3 [v0, some (.int x), v2, v3] st A Q ↔ XX d 241 4 [v0, some (.int x), v2, v3] (.int x :: st) A Q := c_lcl i_241_3 rfl rfl
theorem q_241_4 : XX (d + 1) 241 4 [v0, v1, v2, v3] [.int x1, .ref a0, .int x2, .ref a3] (mk S I L R G) Q ↔ S a0 = some (.inr 11) ∧ XC d 108 [.ref a0, .int x1] (mk S I L R G) (XK (d + 1) 241 4 [v0, v1, v2, v3] [.int x2, .ref a3] Q) := c_callV i_241_4 rfl rfl rfl rfl (Nat.le_of_ble_eq_true rfl) (Nat.le_of_ble_eq_true rfl) rfl
theorem q_241_7 : XX d 241 7 [v0, v1, v2, v3] (.int x :: st) A Q ↔ XX d 241 8 [v0, v1, v2, v3] (.long x.toInt64 :: st) A Q := c_stk i_241_7 rfl
theorem q_241_8 : XX d 241 8 [v0, v1, v2, v3] (.long ly :: .int x :: .ref a :: st) (mk S I L R G) Q ↔ inA (S a) ok_l x ∧ XX d 241 9 [v0, v1, v2, v3] st (mk S I (wr L a (up (L a) (ix x) ly)) R G) Q := r_las i_241_8
theorem q_241_9 : XX d 241 9 [v0, v1, v2, v3] st A Q ↔ XX d 241 15 [v0, v1, v2, v3] st A Q := c_go i_241_9 rfl rfl
theorem q_241_12 : XX d 241 12 [v0, v1, some (.ref b), v3] (.ref a :: st) A Q ↔ XX d 241 13 [v0, v1, some (.ref b), some (.ref a)] st A Q := c_lcl i_241_12 rfl rfl
theorem q_241_13 : XX d 241 13 [v0, v1, v2, v3] st A Q ↔ XX d 241 14 [v0, v1, v2, v3] (.int (w 1) :: st) A Q := c_stk i_241_13 rfl
theorem q_241_14 : XX d 241 14 [v0, v1, v2, v3] [.int x] A Q ↔ Q (.inl (some (.int x))) A := e_retI i_241_14 rfl
theorem q_241_15 : XX d 241 15 [v0, v1, v2, v3] st A Q ↔ XX d 241 16 [v0, v1, v2, v3] (.int (w 0) :: st) A Q := c_stk i_241_15 rfl
theorem q_241_16 : XX d 241 16 [v0, v1, v2, v3] [.int x] A Q ↔ Q (.inl (some (.int x))) A := e_retI i_241_16 rfl
theorem q_241_e : XC d 241 [.ref a0, .int x1, .ref a2] A Q ↔ XX d 241 0 [some (.ref a0), some (.int x1), some (.ref a2), none] [] A Q := Iff.rfl
theorem i_242_0 : t_ins 242 0 = some (.aload_n 2) := by decide +kernel
theorem i_242_1 : t_ins 242 1 = some (.iconst 0) := by decide +kernel
theorem i_242_2 : t_ins 242 2 = some (.aload_n 0) := by decide +kernel
theorem i_242_3 : t_ins 242 3 = some (.iload_n 1) := by decide +kernel
theorem i_242_4 : t_ins 242 4 = some (.invokevirtual 18) := by decide +kernel
theorem i_242_7 : t_ins 242 7 = some (.i2l) := by decide +kernel
theorem i_242_8 : t_ins 242 8 = some (.lastore) := by decide +kernel
theorem i_242_9 : t_ins 242 9 = some (.goto 6) := by decide +kernel
theorem i_242_12 : t_ins 242 12 = some (.astore_n 3) := by decide +kernel
theorem i_242_13 : t_ins 242 13 = some (.iconst 1) := by decide +kernel
theorem i_242_14 : t_ins 242 14 = some (.ireturn) := by decide +kernel
theorem i_242_15 : t_ins 242 15 = some (.iconst 0) := by decide +kernel
theorem i_242_16 : t_ins 242 16 = some (.ireturn) := by decide +kernel
theorem q_242_0 : XX d 242 0 [v0, v1, some (.ref a), v3] st A Q ↔ XX d 242 1 [v0, v1, some (.ref a), v3] (.ref a :: st) A Q := c_lcl i_242_0 rfl rfl
theorem q_242_1 : XX d 242 1 [v0, v1, v2, v3] st A Q ↔ XX d 242 2 [v0, v1, v2, v3] (.int (w 0) :: st) A Q := c_stk i_242_1 rfl
theorem q_242_2 : XX d 242 2 [some (.ref a), v1, v2, v3] st A Q ↔ XX d 242 3 [some (.ref a), v1, v2, v3] (.ref a :: st) A Q := c_lcl i_242_2 rfl rfl
theorem q_242_3 : XX d 242 3 [v0, some (.int x), v2, v3] st A Q ↔ XX d 242 4 [v0, some (.int x), v2, v3] (.int x :: st) A Q := c_lcl i_242_3 rfl rfl
theorem q_242_4 : XX (d + 1) 242 4 [v0, v1, v2, v3] [.int x1, .ref a0, .int x2, .ref a3] (mk S I L R G) Q ↔ S a0 = some (.inr 11) ∧ XC d 110 [.ref a0, .int x1] (mk S I L R G) (XK (d + 1) 242 4 [v0, v1, v2, v3] [.int x2, .ref a3] Q) := c_callV i_242_4 rfl rfl rfl rfl (Nat.le_of_ble_eq_true rfl) (Nat.le_of_ble_eq_true rfl) rfl
theorem q_242_7 : XX d 242 7 [v0, v1, v2, v3] (.int x :: st) A Q ↔ XX d 242 8 [v0, v1, v2, v3] (.long x.toInt64 :: st) A Q := c_stk i_242_7 rfl
theorem q_242_8 : XX d 242 8 [v0, v1, v2, v3] (.long ly :: .int x :: .ref a :: st) (mk S I L R G) Q ↔ inA (S a) ok_l x ∧ XX d 242 9 [v0, v1, v2, v3] st (mk S I (wr L a (up (L a) (ix x) ly)) R G) Q := r_las i_242_8
theorem q_242_9 : XX d 242 9 [v0, v1, v2, v3] st A Q ↔ XX d 242 15 [v0, v1, v2, v3] st A Q := c_go i_242_9 rfl rfl
theorem q_242_12 : XX d 242 12 [v0, v1, some (.ref b), v3] (.ref a :: st) A Q ↔ XX d 242 13 [v0, v1, some (.ref b), some (.ref a)] st A Q := c_lcl i_242_12 rfl rfl
theorem q_242_13 : XX d 242 13 [v0, v1, v2, v3] st A Q ↔ XX d 242 14 [v0, v1, v2, v3] (.int (w 1) :: st) A Q := c_stk i_242_13 rfl
theorem q_242_14 : XX d 242 14 [v0, v1, v2, v3] [.int x] A Q ↔ Q (.inl (some (.int x))) A := e_retI i_242_14 rfl
theorem q_242_15 : XX d 242 15 [v0, v1, v2, v3] st A Q ↔ XX d 242 16 [v0, v1, v2, v3] (.int (w 0) :: st) A Q := c_stk i_242_15 rfl
theorem q_242_16 : XX d 242 16 [v0, v1, v2, v3] [.int x] A Q ↔ Q (.inl (some (.int x))) A := e_retI i_242_16 rfl
theorem q_242_e : XC d 242 [.ref a0, .int x1, .ref a2] A Q ↔ XX d 242 0 [some (.ref a0), some (.int x1), some (.ref a2), none] [] A Q := Iff.rfl
theorem i_243_0 : t_ins 243 0 = some (.aload_n 3) := by decide +kernel
theorem i_243_1 : t_ins 243 1 = some (.iconst 0) := by decide +kernel
theorem i_243_2 : t_ins 243 2 = some (.aload_n 0) := by decide +kernel
theorem i_243_3 : t_ins 243 3 = some (.iload_n 1) := by decide +kernel
theorem i_243_4 : t_ins 243 4 = some (.iload_n 2) := by decide +kernel
theorem i_243_5 : t_ins 243 5 = some (.invokevirtual 21) := by decide +kernel
theorem i_243_8 : t_ins 243 8 = some (.i2l) := by decide +kernel
theorem i_243_9 : t_ins 243 9 = some (.lastore) := by decide +kernel
theorem i_243_10 : t_ins 243 10 = some (.goto 7) := by decide +kernel
theorem i_243_13 : t_ins 243 13 = some (.astore 4) := by decide +kernel
theorem i_243_15 : t_ins 243 15 = some (.iconst 1) := by decide +kernel
theorem i_243_16 : t_ins 243 16 = some (.ireturn) := by decide +kernel
theorem i_243_17 : t_ins 243 17 = some (.iconst 0) := by decide +kernel
theorem i_243_18 : t_ins 243 18 = some (.ireturn) := by decide +kernel
theorem q_243_0 : XX d 243 0 [v0, v1, v2, some (.ref a), v4] st A Q ↔ XX d 243 1 [v0, v1, v2, some (.ref a), v4] (.ref a :: st) A Q := c_lcl i_243_0 rfl rfl
theorem q_243_1 : XX d 243 1 [v0, v1, v2, v3, v4] st A Q ↔ XX d 243 2 [v0, v1, v2, v3, v4] (.int (w 0) :: st) A Q := c_stk i_243_1 rfl
theorem q_243_2 : XX d 243 2 [some (.ref a), v1, v2, v3, v4] st A Q ↔ XX d 243 3 [some (.ref a), v1, v2, v3, v4] (.ref a :: st) A Q := c_lcl i_243_2 rfl rfl
theorem q_243_3 : XX d 243 3 [v0, some (.int x), v2, v3, v4] st A Q ↔ XX d 243 4 [v0, some (.int x), v2, v3, v4] (.int x :: st) A Q := c_lcl i_243_3 rfl rfl
theorem q_243_4 : XX d 243 4 [v0, v1, some (.int x), v3, v4] st A Q ↔ XX d 243 5 [v0, v1, some (.int x), v3, v4] (.int x :: st) A Q := c_lcl i_243_4 rfl rfl
theorem q_243_5 : XX (d + 1) 243 5 [v0, v1, v2, v3, v4] [.int x2, .int x1, .ref a0, .int x3, .ref a4] (mk S I L R G) Q ↔ S a0 = some (.inr 11) ∧ XC d 111 [.ref a0, .int x1, .int x2] (mk S I L R G) (XK (d + 1) 243 5 [v0, v1, v2, v3, v4] [.int x3, .ref a4] Q) := c_callV i_243_5 rfl rfl rfl rfl (Nat.le_of_ble_eq_true rfl) (Nat.le_of_ble_eq_true rfl) rfl
theorem q_243_8 : XX d 243 8 [v0, v1, v2, v3, v4] (.int x :: st) A Q ↔ XX d 243 9 [v0, v1, v2, v3, v4] (.long x.toInt64 :: st) A Q := c_stk i_243_8 rfl
theorem q_243_9 : XX d 243 9 [v0, v1, v2, v3, v4] (.long ly :: .int x :: .ref a :: st) (mk S I L R G) Q ↔ inA (S a) ok_l x ∧ XX d 243 10 [v0, v1, v2, v3, v4] st (mk S I (wr L a (up (L a) (ix x) ly)) R G) Q := r_las i_243_9
theorem q_243_10 : XX d 243 10 [v0, v1, v2, v3, v4] st A Q ↔ XX d 243 17 [v0, v1, v2, v3, v4] st A Q := c_go i_243_10 rfl rfl
theorem q_243_13 : XX d 243 13 [v0, v1, v2, some (.ref b), v4] (.ref a :: st) A Q ↔ XX d 243 15 [v0, v1, v2, some (.ref b), some (.ref a)] st A Q := c_lcl i_243_13 rfl rfl
theorem q_243_15 : XX d 243 15 [v0, v1, v2, v3, v4] st A Q ↔ XX d 243 16 [v0, v1, v2, v3, v4] (.int (w 1) :: st) A Q := c_stk i_243_15 rfl
theorem q_243_16 : XX d 243 16 [v0, v1, v2, v3, v4] [.int x] A Q ↔ Q (.inl (some (.int x))) A := e_retI i_243_16 rfl
theorem q_243_17 : XX d 243 17 [v0, v1, v2, v3, v4] st A Q ↔ XX d 243 18 [v0, v1, v2, v3, v4] (.int (w 0) :: st) A Q := c_stk i_243_17 rfl
theorem q_243_18 : XX d 243 18 [v0, v1, v2, v3, v4] [.int x] A Q ↔ Q (.inl (some (.int x))) A := e_retI i_243_18 rfl
theorem q_243_e : XC d 243 [.ref a0, .int x1, .int x2, .ref a3] A Q ↔ XX d 243 0 [some (.ref a0), some (.int x1), some (.int x2), some (.ref a3), none] [] A Q := Iff.rfl
theorem i_244_0 : t_ins 244 0 = some (.aload_n 3) := by decide +kernel
theorem i_244_1 : t_ins 244 1 = some (.iconst 0) := by decide +kernel
theorem i_244_2 : t_ins 244 2 = some (.aload_n 0) := by decide +kernel
theorem i_244_3 : t_ins 244 3 = some (.iload_n 1) := by decide +kernel
theorem i_244_4 : t_ins 244 4 = some (.iload_n 2) := by decide +kernel
theorem i_244_5 : t_ins 244 5 = some (.invokevirtual 27) := by decide +kernel
theorem i_244_8 : t_ins 244 8 = some (.i2l) := by decide +kernel
theorem i_244_9 : t_ins 244 9 = some (.lastore) := by decide +kernel
theorem i_244_10 : t_ins 244 10 = some (.goto 11) := by decide +kernel
theorem i_244_13 : t_ins 244 13 = some (.astore 4) := by decide +kernel
theorem i_244_15 : t_ins 244 15 = some (.iconst 1) := by decide +kernel
theorem i_244_16 : t_ins 244 16 = some (.ireturn) := by decide +kernel
theorem i_244_17 : t_ins 244 17 = some (.astore 4) := by decide +kernel
theorem i_244_19 : t_ins 244 19 = some (.iconst 2) := by decide +kernel
theorem i_244_20 : t_ins 244 20 = some (.ireturn) := by decide +kernel
theorem i_244_21 : t_ins 244 21 = some (.iconst 0) := by decide +kernel
theorem i_244_22 : t_ins 244 22 = some (.ireturn) := by decide +kernel
theorem q_244_0 : XX d 244 0 [v0, v1, v2, some (.ref a), v4] st A Q ↔ XX d 244 1 [v0, v1, v2, some (.ref a), v4] (.ref a :: st) A Q := c_lcl i_244_0 rfl rfl
theorem q_244_1 : XX d 244 1 [v0, v1, v2, v3, v4] st A Q ↔ XX d 244 2 [v0, v1, v2, v3, v4] (.int (w 0) :: st) A Q := c_stk i_244_1 rfl
theorem q_244_2 : XX d 244 2 [some (.ref a), v1, v2, v3, v4] st A Q ↔ XX d 244 3 [some (.ref a), v1, v2, v3, v4] (.ref a :: st) A Q := c_lcl i_244_2 rfl rfl
theorem q_244_3 : XX d 244 3 [v0, some (.int x), v2, v3, v4] st A Q ↔ XX d 244 4 [v0, some (.int x), v2, v3, v4] (.int x :: st) A Q := c_lcl i_244_3 rfl rfl
theorem q_244_4 : XX d 244 4 [v0, v1, some (.int x), v3, v4] st A Q ↔ XX d 244 5 [v0, v1, some (.int x), v3, v4] (.int x :: st) A Q := c_lcl i_244_4 rfl rfl
theorem q_244_5 : XX (d + 1) 244 5 [v0, v1, v2, v3, v4] [.int x2, .int x1, .ref a0, .int x3, .ref a4] (mk S I L R G) Q ↔ S a0 = some (.inr 11) ∧ XC d 112 [.ref a0, .int x1, .int x2] (mk S I L R G) (XK (d + 1) 244 5 [v0, v1, v2, v3, v4] [.int x3, .ref a4] Q) := c_callV i_244_5 rfl rfl rfl rfl (Nat.le_of_ble_eq_true rfl) (Nat.le_of_ble_eq_true rfl) rfl
theorem q_244_8 : XX d 244 8 [v0, v1, v2, v3, v4] (.int x :: st) A Q ↔ XX d 244 9 [v0, v1, v2, v3, v4] (.long x.toInt64 :: st) A Q := c_stk i_244_8 rfl
theorem q_244_9 : XX d 244 9 [v0, v1, v2, v3, v4] (.long ly :: .int x :: .ref a :: st) (mk S I L R G) Q ↔ inA (S a) ok_l x ∧ XX d 244 10 [v0, v1, v2, v3, v4] st (mk S I (wr L a (up (L a) (ix x) ly)) R G) Q := r_las i_244_9
theorem q_244_10 : XX d 244 10 [v0, v1, v2, v3, v4] st A Q ↔ XX d 244 21 [v0, v1, v2, v3, v4] st A Q := c_go i_244_10 rfl rfl
theorem q_244_13 : XX d 244 13 [v0, v1, v2, some (.ref b), v4] (.ref a :: st) A Q ↔ XX d 244 15 [v0, v1, v2, some (.ref b), some (.ref a)] st A Q := c_lcl i_244_13 rfl rfl
theorem q_244_15 : XX d 244 15 [v0, v1, v2, v3, v4] st A Q ↔ XX d 244 16 [v0, v1, v2, v3, v4] (.int (w 1) :: st) A Q := c_stk i_244_15 rfl
theorem q_244_16 : XX d 244 16 [v0, v1, v2, v3, v4] [.int x] A Q ↔ Q (.inl (some (.int x))) A := e_retI i_244_16 rfl
theorem q_244_17 : XX d 244 17 [v0, v1, v2, some (.ref b), v4] (.ref a :: st) A Q ↔ XX d 244 19 [v0, v1, v2, some (.ref b), some (.ref a)] st A Q := c_lcl i_244_17 rfl rfl
theorem q_244_19 : XX d 244 19 [v0, v1, v2, v3, v4] st A Q ↔ XX d 244 20 [v0, v1, v2, v3, v4] (.int (w 2) :: st) A Q := c_stk i_244_19 rfl
theorem q_244_20 : XX d 244 20 [v0, v1, v2, v3, v4] [.int x] A Q ↔ Q (.inl (some (.int x))) A := e_retI i_244_20 rfl
theorem q_244_21 : XX d 244 21 [v0, v1, v2, v3, v4] st A Q ↔ XX d 244 22 [v0, v1, v2, v3, v4] (.int (w 0) :: st) A Q := c_stk i_244_21 rfl
theorem q_244_22 : XX d 244 22 [v0, v1, v2, v3, v4] [.int x] A Q ↔ Q (.inl (some (.int x))) A := e_retI i_244_22 rfl
theorem q_244_e : XC d 244 [.ref a0, .int x1, .int x2, .ref a3] A Q ↔ XX d 244 0 [some (.ref a0), some (.int x1), some (.int x2), some (.ref a3), none] [] A Q := Iff.rfl
theorem i_245_0 : t_ins 245 0 = some (.aload_n 2) := by decide +kernel
theorem i_245_1 : t_ins 245 1 = some (.iconst 0) := by decide +kernel
theorem i_245_2 : t_ins 245 2 = some (.aload_n 0) := by decide +kernel
theorem i_245_3 : t_ins 245 3 = some (.iload_n 1) := by decide +kernel
theorem i_245_4 : t_ins 245 4 = some (.invokevirtual 30) := by decide +kernel
theorem i_245_7 : t_ins 245 7 = some (.i2l) := by decide +kernel
theorem i_245_8 : t_ins 245 8 = some (.lastore) := by decide +kernel
theorem i_245_9 : t_ins 245 9 = some (.goto 6) := by decide +kernel
theorem i_245_12 : t_ins 245 12 = some (.astore_n 3) := by decide +kernel
theorem i_245_13 : t_ins 245 13 = some (.iconst 1) := by decide +kernel
theorem i_245_14 : t_ins 245 14 = some (.ireturn) := by decide +kernel
theorem i_245_15 : t_ins 245 15 = some (.iconst 0) := by decide +kernel
theorem i_245_16 : t_ins 245 16 = some (.ireturn) := by decide +kernel
theorem q_245_0 : XX d 245 0 [v0, v1, some (.ref a), v3] st A Q ↔ XX d 245 1 [v0, v1, some (.ref a), v3] (.ref a :: st) A Q := c_lcl i_245_0 rfl rfl
theorem q_245_1 : XX d 245 1 [v0, v1, v2, v3] st A Q ↔ XX d 245 2 [v0, v1, v2, v3] (.int (w 0) :: st) A Q := c_stk i_245_1 rfl
theorem q_245_2 : XX d 245 2 [some (.ref a), v1, v2, v3] st A Q ↔ XX d 245 3 [some (.ref a), v1, v2, v3] (.ref a :: st) A Q := c_lcl i_245_2 rfl rfl
theorem q_245_3 : XX d 245 3 [v0, some (.int x), v2, v3] st A Q ↔ XX d 245 4 [v0, some (.int x), v2, v3] (.int x :: st) A Q := c_lcl i_245_3 rfl rfl
theorem q_245_4 : XX (d + 1) 245 4 [v0, v1, v2, v3] [.int x1, .ref a0, .int x2, .ref a3] (mk S I L R G) Q ↔ S a0 = some (.inr 11) ∧ XC d 115 [.ref a0, .int x1] (mk S I L R G) (XK (d + 1) 245 4 [v0, v1, v2, v3] [.int x2, .ref a3] Q) := c_callV i_245_4 rfl rfl rfl rfl (Nat.le_of_ble_eq_true rfl) (Nat.le_of_ble_eq_true rfl) rfl
theorem q_245_7 : XX d 245 7 [v0, v1, v2, v3] (.int x :: st) A Q ↔ XX d 245 8 [v0, v1, v2, v3] (.long x.toInt64 :: st) A Q := c_stk i_245_7 rfl
theorem q_245_8 : XX d 245 8 [v0, v1, v2, v3] (.long ly :: .int x :: .ref a :: st) (mk S I L R G) Q ↔ inA (S a) ok_l x ∧ XX d 245 9 [v0, v1, v2, v3] st (mk S I (wr L a (up (L a) (ix x) ly)) R G) Q := r_las i_245_8
theorem q_245_9 : XX d 245 9 [v0, v1, v2, v3] st A Q ↔ XX d 245 15 [v0, v1, v2, v3] st A Q := c_go i_245_9 rfl rfl
theorem q_245_12 : XX d 245 12 [v0, v1, some (.ref b), v3] (.ref a :: st) A Q ↔ XX d 245 13 [v0, v1, some (.ref b), some (.ref a)] st A Q := c_lcl i_245_12 rfl rfl
theorem q_245_13 : XX d 245 13 [v0, v1, v2, v3] st A Q ↔ XX d 245 14 [v0, v1, v2, v3] (.int (w 1) :: st) A Q := c_stk i_245_13 rfl
theorem q_245_14 : XX d 245 14 [v0, v1, v2, v3] [.int x] A Q ↔ Q (.inl (some (.int x))) A := e_retI i_245_14 rfl
theorem q_245_15 : XX d 245 15 [v0, v1, v2, v3] st A Q ↔ XX d 245 16 [v0, v1, v2, v3] (.int (w 0) :: st) A Q := c_stk i_245_15 rfl
theorem q_245_16 : XX d 245 16 [v0, v1, v2, v3] [.int x] A Q ↔ Q (.inl (some (.int x))) A := e_retI i_245_16 rfl
theorem q_245_e : XC d 245 [.ref a0, .int x1, .ref a2] A Q ↔ XX d 245 0 [some (.ref a0), some (.int x1), some (.ref a2), none] [] A Q := Iff.rfl
theorem i_246_0 : t_ins 246 0 = some (.aload 4) := by decide +kernel
theorem i_246_2 : t_ins 246 2 = some (.iconst 0) := by decide +kernel
theorem i_246_3 : t_ins 246 3 = some (.aload_n 0) := by decide +kernel
theorem i_246_4 : t_ins 246 4 = some (.iload_n 1) := by decide +kernel
theorem i_246_5 : t_ins 246 5 = some (.iload_n 2) := by decide +kernel
theorem i_246_6 : t_ins 246 6 = some (.iload_n 3) := by decide +kernel
theorem i_246_7 : t_ins 246 7 = some (.invokevirtual 33) := by decide +kernel
theorem i_246_10 : t_ins 246 10 = some (.i2l) := by decide +kernel
theorem i_246_11 : t_ins 246 11 = some (.lastore) := by decide +kernel
theorem i_246_12 : t_ins 246 12 = some (.goto 11) := by decide +kernel
theorem i_246_15 : t_ins 246 15 = some (.astore 5) := by decide +kernel
theorem i_246_17 : t_ins 246 17 = some (.iconst 1) := by decide +kernel
theorem i_246_18 : t_ins 246 18 = some (.ireturn) := by decide +kernel
theorem i_246_19 : t_ins 246 19 = some (.astore 5) := by decide +kernel
theorem i_246_21 : t_ins 246 21 = some (.iconst 2) := by decide +kernel
theorem i_246_22 : t_ins 246 22 = some (.ireturn) := by decide +kernel
theorem i_246_23 : t_ins 246 23 = some (.iconst 0) := by decide +kernel
theorem i_246_24 : t_ins 246 24 = some (.ireturn) := by decide +kernel
theorem q_246_0 : XX d 246 0 [v0, v1, v2, v3, some (.ref a), v5] st A Q ↔ XX d 246 2 [v0, v1, v2, v3, some (.ref a), v5] (.ref a :: st) A Q := c_lcl i_246_0 rfl rfl
theorem q_246_2 : XX d 246 2 [v0, v1, v2, v3, v4, v5] st A Q ↔ XX d 246 3 [v0, v1, v2, v3, v4, v5] (.int (w 0) :: st) A Q := c_stk i_246_2 rfl
theorem q_246_3 : XX d 246 3 [some (.ref a), v1, v2, v3, v4, v5] st A Q ↔ XX d 246 4 [some (.ref a), v1, v2, v3, v4, v5] (.ref a :: st) A Q := c_lcl i_246_3 rfl rfl
theorem q_246_4 : XX d 246 4 [v0, some (.int x), v2, v3, v4, v5] st A Q ↔ XX d 246 5 [v0, some (.int x), v2, v3, v4, v5] (.int x :: st) A Q := c_lcl i_246_4 rfl rfl
theorem q_246_5 : XX d 246 5 [v0, v1, some (.int x), v3, v4, v5] st A Q ↔ XX d 246 6 [v0, v1, some (.int x), v3, v4, v5] (.int x :: st) A Q := c_lcl i_246_5 rfl rfl
theorem q_246_6 : XX d 246 6 [v0, v1, v2, some (.int x), v4, v5] st A Q ↔ XX d 246 7 [v0, v1, v2, some (.int x), v4, v5] (.int x :: st) A Q := c_lcl i_246_6 rfl rfl
theorem q_246_7 : XX (d + 1) 246 7 [v0, v1, v2, v3, v4, v5] [.int x3, .int x2, .int x1, .ref a0, .int x4, .ref a5] (mk S I L R G) Q ↔ S a0 = some (.inr 11) ∧ XC d 116 [.ref a0, .int x1, .int x2, .int x3] (mk S I L R G) (XK (d + 1) 246 7 [v0, v1, v2, v3, v4, v5] [.int x4, .ref a5] Q) := c_callV i_246_7 rfl rfl rfl rfl (Nat.le_of_ble_eq_true rfl) (Nat.le_of_ble_eq_true rfl) rfl
theorem q_246_10 : XX d 246 10 [v0, v1, v2, v3, v4, v5] (.int x :: st) A Q ↔ XX d 246 11 [v0, v1, v2, v3, v4, v5] (.long x.toInt64 :: st) A Q := c_stk i_246_10 rfl
theorem q_246_11 : XX d 246 11 [v0, v1, v2, v3, v4, v5] (.long ly :: .int x :: .ref a :: st) (mk S I L R G) Q ↔ inA (S a) ok_l x ∧ XX d 246 12 [v0, v1, v2, v3, v4, v5] st (mk S I (wr L a (up (L a) (ix x) ly)) R G) Q := r_las i_246_11
theorem q_246_12 : XX d 246 12 [v0, v1, v2, v3, v4, v5] st A Q ↔ XX d 246 23 [v0, v1, v2, v3, v4, v5] st A Q := c_go i_246_12 rfl rfl
theorem q_246_15 : XX d 246 15 [v0, v1, v2, v3, some (.ref b), v5] (.ref a :: st) A Q ↔ XX d 246 17 [v0, v1, v2, v3, some (.ref b), some (.ref a)] st A Q := c_lcl i_246_15 rfl rfl
theorem q_246_17 : XX d 246 17 [v0, v1, v2, v3, v4, v5] st A Q ↔ XX d 246 18 [v0, v1, v2, v3, v4, v5] (.int (w 1) :: st) A Q := c_stk i_246_17 rfl
theorem q_246_18 : XX d 246 18 [v0, v1, v2, v3, v4, v5] [.int x] A Q ↔ Q (.inl (some (.int x))) A := e_retI i_246_18 rfl
theorem q_246_19 : XX d 246 19 [v0, v1, v2, v3, some (.ref b), v5] (.ref a :: st) A Q ↔ XX d 246 21 [v0, v1, v2, v3, some (.ref b), some (.ref a)] st A Q := c_lcl i_246_19 rfl rfl
theorem q_246_21 : XX d 246 21 [v0, v1, v2, v3, v4, v5] st A Q ↔ XX d 246 22 [v0, v1, v2, v3, v4, v5] (.int (w 2) :: st) A Q := c_stk i_246_21 rfl
theorem q_246_22 : XX d 246 22 [v0, v1, v2, v3, v4, v5] [.int x] A Q ↔ Q (.inl (some (.int x))) A := e_retI i_246_22 rfl
theorem q_246_23 : XX d 246 23 [v0, v1, v2, v3, v4, v5] st A Q ↔ XX d 246 24 [v0, v1, v2, v3, v4, v5] (.int (w 0) :: st) A Q := c_stk i_246_23 rfl
theorem q_246_24 : XX d 246 24 [v0, v1, v2, v3, v4, v5] [.int x] A Q ↔ Q (.inl (some (.int x))) A := e_retI i_246_24 rfl
theorem q_246_e : XC d 246 [.ref a0, .int x1, .int x2, .int x3, .ref a4] A Q ↔ XX d 246 0 [some (.ref a0), some (.int x1), some (.int x2), some (.int x3), some (.ref a4), none] [] A Q := Iff.rfl
theorem i_247_0 : t_ins 247 0 = some (.aload 5) := by decide +kernel
theorem i_247_2 : t_ins 247 2 = some (.iconst 0) := by decide +kernel
theorem i_247_3 : t_ins 247 3 = some (.aload_n 0) := by decide +kernel
theorem i_247_4 : t_ins 247 4 = some (.iload_n 1) := by decide +kernel
theorem i_247_5 : t_ins 247 5 = some (.iload_n 2) := by decide +kernel
theorem i_247_6 : t_ins 247 6 = some (.iload_n 3) := by decide +kernel
theorem i_247_7 : t_ins 247 7 = some (.iload 4) := by decide +kernel
theorem i_247_9 : t_ins 247 9 = some (.invokevirtual 37) := by decide +kernel
theorem i_247_12 : t_ins 247 12 = some (.i2l) := by decide +kernel
theorem i_247_13 : t_ins 247 13 = some (.lastore) := by decide +kernel
theorem i_247_14 : t_ins 247 14 = some (.goto 11) := by decide +kernel
theorem i_247_17 : t_ins 247 17 = some (.astore 6) := by decide +kernel
theorem i_247_19 : t_ins 247 19 = some (.iconst 1) := by decide +kernel
theorem i_247_20 : t_ins 247 20 = some (.ireturn) := by decide +kernel
theorem i_247_21 : t_ins 247 21 = some (.astore 6) := by decide +kernel
theorem i_247_23 : t_ins 247 23 = some (.iconst 2) := by decide +kernel
theorem i_247_24 : t_ins 247 24 = some (.ireturn) := by decide +kernel
theorem i_247_25 : t_ins 247 25 = some (.iconst 0) := by decide +kernel
theorem i_247_26 : t_ins 247 26 = some (.ireturn) := by decide +kernel
theorem q_247_0 : XX d 247 0 [v0, v1, v2, v3, v4, some (.ref a), v6] st A Q ↔ XX d 247 2 [v0, v1, v2, v3, v4, some (.ref a), v6] (.ref a :: st) A Q := c_lcl i_247_0 rfl rfl
theorem q_247_2 : XX d 247 2 [v0, v1, v2, v3, v4, v5, v6] st A Q ↔ XX d 247 3 [v0, v1, v2, v3, v4, v5, v6] (.int (w 0) :: st) A Q := c_stk i_247_2 rfl
theorem q_247_3 : XX d 247 3 [some (.ref a), v1, v2, v3, v4, v5, v6] st A Q ↔ XX d 247 4 [some (.ref a), v1, v2, v3, v4, v5, v6] (.ref a :: st) A Q := c_lcl i_247_3 rfl rfl
theorem q_247_4 : XX d 247 4 [v0, some (.int x), v2, v3, v4, v5, v6] st A Q ↔ XX d 247 5 [v0, some (.int x), v2, v3, v4, v5, v6] (.int x :: st) A Q := c_lcl i_247_4 rfl rfl
theorem q_247_5 : XX d 247 5 [v0, v1, some (.int x), v3, v4, v5, v6] st A Q ↔ XX d 247 6 [v0, v1, some (.int x), v3, v4, v5, v6] (.int x :: st) A Q := c_lcl i_247_5 rfl rfl
theorem q_247_6 : XX d 247 6 [v0, v1, v2, some (.int x), v4, v5, v6] st A Q ↔ XX d 247 7 [v0, v1, v2, some (.int x), v4, v5, v6] (.int x :: st) A Q := c_lcl i_247_6 rfl rfl
theorem q_247_7 : XX d 247 7 [v0, v1, v2, v3, some (.int x), v5, v6] st A Q ↔ XX d 247 9 [v0, v1, v2, v3, some (.int x), v5, v6] (.int x :: st) A Q := c_lcl i_247_7 rfl rfl
theorem q_247_9 : XX (d + 1) 247 9 [v0, v1, v2, v3, v4, v5, v6] [.int x4, .int x3, .int x2, .int x1, .ref a0, .int x5, .ref a6] (mk S I L R G) Q ↔ S a0 = some (.inr 11) ∧ XC d 117 [.ref a0, .int x1, .int x2, .int x3, .int x4] (mk S I L R G) (XK (d + 1) 247 9 [v0, v1, v2, v3, v4, v5, v6] [.int x5, .ref a6] Q) := c_callV i_247_9 rfl rfl rfl rfl (Nat.le_of_ble_eq_true rfl) (Nat.le_of_ble_eq_true rfl) rfl
theorem q_247_12 : XX d 247 12 [v0, v1, v2, v3, v4, v5, v6] (.int x :: st) A Q ↔ XX d 247 13 [v0, v1, v2, v3, v4, v5, v6] (.long x.toInt64 :: st) A Q := c_stk i_247_12 rfl
theorem q_247_13 : XX d 247 13 [v0, v1, v2, v3, v4, v5, v6] (.long ly :: .int x :: .ref a :: st) (mk S I L R G) Q ↔ inA (S a) ok_l x ∧ XX d 247 14 [v0, v1, v2, v3, v4, v5, v6] st (mk S I (wr L a (up (L a) (ix x) ly)) R G) Q := r_las i_247_13
theorem q_247_14 : XX d 247 14 [v0, v1, v2, v3, v4, v5, v6] st A Q ↔ XX d 247 25 [v0, v1, v2, v3, v4, v5, v6] st A Q := c_go i_247_14 rfl rfl
theorem q_247_17 : XX d 247 17 [v0, v1, v2, v3, v4, some (.ref b), v6] (.ref a :: st) A Q ↔ XX d 247 19 [v0, v1, v2, v3, v4, some (.ref b), some (.ref a)] st A Q := c_lcl i_247_17 rfl rfl
theorem q_247_19 : XX d 247 19 [v0, v1, v2, v3, v4, v5, v6] st A Q ↔ XX d 247 20 [v0, v1, v2, v3, v4, v5, v6] (.int (w 1) :: st) A Q := c_stk i_247_19 rfl
theorem q_247_20 : XX d 247 20 [v0, v1, v2, v3, v4, v5, v6] [.int x] A Q ↔ Q (.inl (some (.int x))) A := e_retI i_247_20 rfl
theorem q_247_21 : XX d 247 21 [v0, v1, v2, v3, v4, some (.ref b), v6] (.ref a :: st) A Q ↔ XX d 247 23 [v0, v1, v2, v3, v4, some (.ref b), some (.ref a)] st A Q := c_lcl i_247_21 rfl rfl
theorem q_247_23 : XX d 247 23 [v0, v1, v2, v3, v4, v5, v6] st A Q ↔ XX d 247 24 [v0, v1, v2, v3, v4, v5, v6] (.int (w 2) :: st) A Q := c_stk i_247_23 rfl
theorem q_247_24 : XX d 247 24 [v0, v1, v2, v3, v4, v5, v6] [.int x] A Q ↔ Q (.inl (some (.int x))) A := e_retI i_247_24 rfl
theorem q_247_25 : XX d 247 25 [v0, v1, v2, v3, v4, v5, v6] st A Q ↔ XX d 247 26 [v0, v1, v2, v3, v4, v5, v6] (.int (w 0) :: st) A Q := c_stk i_247_25 rfl
theorem q_247_26 : XX d 247 26 [v0, v1, v2, v3, v4, v5, v6] [.int x] A Q ↔ Q (.inl (some (.int x))) A := e_retI i_247_26 rfl
theorem q_247_e : XC d 247 [.ref a0, .int x1, .int x2, .int x3, .int x4, .ref a5] A Q ↔ XX d 247 0 [some (.ref a0), some (.int x1), some (.int x2), some (.int x3), some (.int x4), some (.ref a5), none] [] A Q := Iff.rfl
theorem i_248_0 : t_ins 248 0 = some (.aload_n 3) := by decide +kernel
theorem i_248_1 : t_ins 248 1 = some (.iconst 0) := by decide +kernel
theorem i_248_2 : t_ins 248 2 = some (.aload_n 0) := by decide +kernel
theorem i_248_3 : t_ins 248 3 = some (.iload_n 1) := by decide +kernel
theorem i_248_4 : t_ins 248 4 = some (.iload_n 2) := by decide +kernel
theorem i_248_5 : t_ins 248 5 = some (.invokevirtual 41) := by decide +kernel
theorem i_248_8 : t_ins 248 8 = some (.i2l) := by decide +kernel
theorem i_248_9 : t_ins 248 9 = some (.lastore) := by decide +kernel
theorem i_248_10 : t_ins 248 10 = some (.goto 11) := by decide +kernel
theorem i_248_13 : t_ins 248 13 = some (.astore 4) := by decide +kernel
theorem i_248_15 : t_ins 248 15 = some (.iconst 1) := by decide +kernel
theorem i_248_16 : t_ins 248 16 = some (.ireturn) := by decide +kernel
theorem i_248_17 : t_ins 248 17 = some (.astore 4) := by decide +kernel
theorem i_248_19 : t_ins 248 19 = some (.iconst 2) := by decide +kernel
theorem i_248_20 : t_ins 248 20 = some (.ireturn) := by decide +kernel
theorem i_248_21 : t_ins 248 21 = some (.iconst 0) := by decide +kernel
theorem i_248_22 : t_ins 248 22 = some (.ireturn) := by decide +kernel
theorem q_248_0 : XX d 248 0 [v0, v1, v2, some (.ref a), v4] st A Q ↔ XX d 248 1 [v0, v1, v2, some (.ref a), v4] (.ref a :: st) A Q := c_lcl i_248_0 rfl rfl
theorem q_248_1 : XX d 248 1 [v0, v1, v2, v3, v4] st A Q ↔ XX d 248 2 [v0, v1, v2, v3, v4] (.int (w 0) :: st) A Q := c_stk i_248_1 rfl
theorem q_248_2 : XX d 248 2 [some (.ref a), v1, v2, v3, v4] st A Q ↔ XX d 248 3 [some (.ref a), v1, v2, v3, v4] (.ref a :: st) A Q := c_lcl i_248_2 rfl rfl
theorem q_248_3 : XX d 248 3 [v0, some (.int x), v2, v3, v4] st A Q ↔ XX d 248 4 [v0, some (.int x), v2, v3, v4] (.int x :: st) A Q := c_lcl i_248_3 rfl rfl
theorem q_248_4 : XX d 248 4 [v0, v1, some (.int x), v3, v4] st A Q ↔ XX d 248 5 [v0, v1, some (.int x), v3, v4] (.int x :: st) A Q := c_lcl i_248_4 rfl rfl
theorem q_248_5 : XX (d + 1) 248 5 [v0, v1, v2, v3, v4] [.int x2, .int x1, .ref a0, .int x3, .ref a4] (mk S I L R G) Q ↔ S a0 = some (.inr 11) ∧ XC d 118 [.ref a0, .int x1, .int x2] (mk S I L R G) (XK (d + 1) 248 5 [v0, v1, v2, v3, v4] [.int x3, .ref a4] Q) := c_callV i_248_5 rfl rfl rfl rfl (Nat.le_of_ble_eq_true rfl) (Nat.le_of_ble_eq_true rfl) rfl
theorem q_248_8 : XX d 248 8 [v0, v1, v2, v3, v4] (.int x :: st) A Q ↔ XX d 248 9 [v0, v1, v2, v3, v4] (.long x.toInt64 :: st) A Q := c_stk i_248_8 rfl
theorem q_248_9 : XX d 248 9 [v0, v1, v2, v3, v4] (.long ly :: .int x :: .ref a :: st) (mk S I L R G) Q ↔ inA (S a) ok_l x ∧ XX d 248 10 [v0, v1, v2, v3, v4] st (mk S I (wr L a (up (L a) (ix x) ly)) R G) Q := r_las i_248_9
theorem q_248_10 : XX d 248 10 [v0, v1, v2, v3, v4] st A Q ↔ XX d 248 21 [v0, v1, v2, v3, v4] st A Q := c_go i_248_10 rfl rfl
theorem q_248_13 : XX d 248 13 [v0, v1, v2, some (.ref b), v4] (.ref a :: st) A Q ↔ XX d 248 15 [v0, v1, v2, some (.ref b), some (.ref a)] st A Q := c_lcl i_248_13 rfl rfl
theorem q_248_15 : XX d 248 15 [v0, v1, v2, v3, v4] st A Q ↔ XX d 248 16 [v0, v1, v2, v3, v4] (.int (w 1) :: st) A Q := c_stk i_248_15 rfl
theorem q_248_16 : XX d 248 16 [v0, v1, v2, v3, v4] [.int x] A Q ↔ Q (.inl (some (.int x))) A := e_retI i_248_16 rfl
theorem q_248_17 : XX d 248 17 [v0, v1, v2, some (.ref b), v4] (.ref a :: st) A Q ↔ XX d 248 19 [v0, v1, v2, some (.ref b), some (.ref a)] st A Q := c_lcl i_248_17 rfl rfl
theorem q_248_19 : XX d 248 19 [v0, v1, v2, v3, v4] st A Q ↔ XX d 248 20 [v0, v1, v2, v3, v4] (.int (w 2) :: st) A Q := c_stk i_248_19 rfl
theorem q_248_20 : XX d 248 20 [v0, v1, v2, v3, v4] [.int x] A Q ↔ Q (.inl (some (.int x))) A := e_retI i_248_20 rfl
theorem q_248_21 : XX d 248 21 [v0, v1, v2, v3, v4] st A Q ↔ XX d 248 22 [v0, v1, v2, v3, v4] (.int (w 0) :: st) A Q := c_stk i_248_21 rfl
theorem q_248_22 : XX d 248 22 [v0, v1, v2, v3, v4] [.int x] A Q ↔ Q (.inl (some (.int x))) A := e_retI i_248_22 rfl
theorem q_248_e : XC d 248 [.ref a0, .int x1, .int x2, .ref a3] A Q ↔ XX d 248 0 [some (.ref a0), some (.int x1), some (.int x2), some (.ref a3), none] [] A Q := Iff.rfl
theorem i_249_0 : t_ins 249 0 = some (.aload 4) := by decide +kernel
theorem i_249_2 : t_ins 249 2 = some (.iconst 0) := by decide +kernel
theorem i_249_3 : t_ins 249 3 = some (.aload_n 0) := by decide +kernel
theorem i_249_4 : t_ins 249 4 = some (.iload_n 1) := by decide +kernel
theorem i_249_5 : t_ins 249 5 = some (.iload_n 2) := by decide +kernel
theorem i_249_6 : t_ins 249 6 = some (.iload_n 3) := by decide +kernel
theorem i_249_7 : t_ins 249 7 = some (.invokevirtual 44) := by decide +kernel
theorem i_249_10 : t_ins 249 10 = some (.i2l) := by decide +kernel
theorem i_249_11 : t_ins 249 11 = some (.lastore) := by decide +kernel
theorem i_249_12 : t_ins 249 12 = some (.goto 11) := by decide +kernel
theorem i_249_15 : t_ins 249 15 = some (.astore 5) := by decide +kernel
theorem i_249_17 : t_ins 249 17 = some (.iconst 1) := by decide +kernel
theorem i_249_18 : t_ins 249 18 = some (.ireturn) := by decide +kernel
theorem i_249_19 : t_ins 249 19 = some (.astore 5) := by decide +kernel
theorem i_249_21 : t_ins 249 21 = some (.iconst 2) := by decide +kernel
theorem i_249_22 : t_ins 249 22 = some (.ireturn) := by decide +kernel
theorem i_249_23 : t_ins 249 23 = some (.iconst 0) := by decide +kernel
theorem i_249_24 : t_ins 249 24 = some (.ireturn) := by decide +kernel
theorem q_249_0 : XX d 249 0 [v0, v1, v2, v3, some (.ref a), v5] st A Q ↔ XX d 249 2 [v0, v1, v2, v3, some (.ref a), v5] (.ref a :: st) A Q := c_lcl i_249_0 rfl rfl
theorem q_249_2 : XX d 249 2 [v0, v1, v2, v3, v4, v5] st A Q ↔ XX d 249 3 [v0, v1, v2, v3, v4, v5] (.int (w 0) :: st) A Q := c_stk i_249_2 rfl
theorem q_249_3 : XX d 249 3 [some (.ref a), v1, v2, v3, v4, v5] st A Q ↔ XX d 249 4 [some (.ref a), v1, v2, v3, v4, v5] (.ref a :: st) A Q := c_lcl i_249_3 rfl rfl
theorem q_249_4 : XX d 249 4 [v0, some (.int x), v2, v3, v4, v5] st A Q ↔ XX d 249 5 [v0, some (.int x), v2, v3, v4, v5] (.int x :: st) A Q := c_lcl i_249_4 rfl rfl
theorem q_249_5 : XX d 249 5 [v0, v1, some (.int x), v3, v4, v5] st A Q ↔ XX d 249 6 [v0, v1, some (.int x), v3, v4, v5] (.int x :: st) A Q := c_lcl i_249_5 rfl rfl
theorem q_249_6 : XX d 249 6 [v0, v1, v2, some (.int x), v4, v5] st A Q ↔ XX d 249 7 [v0, v1, v2, some (.int x), v4, v5] (.int x :: st) A Q := c_lcl i_249_6 rfl rfl
theorem q_249_7 : XX (d + 1) 249 7 [v0, v1, v2, v3, v4, v5] [.int x3, .int x2, .int x1, .ref a0, .int x4, .ref a5] (mk S I L R G) Q ↔ S a0 = some (.inr 11) ∧ XC d 119 [.ref a0, .int x1, .int x2, .int x3] (mk S I L R G) (XK (d + 1) 249 7 [v0, v1, v2, v3, v4, v5] [.int x4, .ref a5] Q) := c_callV i_249_7 rfl rfl rfl rfl (Nat.le_of_ble_eq_true rfl) (Nat.le_of_ble_eq_true rfl) rfl
theorem q_249_10 : XX d 249 10 [v0, v1, v2, v3, v4, v5] (.int x :: st) A Q ↔ XX d 249 11 [v0, v1, v2, v3, v4, v5] (.long x.toInt64 :: st) A Q := c_stk i_249_10 rfl
theorem q_249_11 : XX d 249 11 [v0, v1, v2, v3, v4, v5] (.long ly :: .int x :: .ref a :: st) (mk S I L R G) Q ↔ inA (S a) ok_l x ∧ XX d 249 12 [v0, v1, v2, v3, v4, v5] st (mk S I (wr L a (up (L a) (ix x) ly)) R G) Q := r_las i_249_11
theorem q_249_12 : XX d 249 12 [v0, v1, v2, v3, v4, v5] st A Q ↔ XX d 249 23 [v0, v1, v2, v3, v4, v5] st A Q := c_go i_249_12 rfl rfl
theorem q_249_15 : XX d 249 15 [v0, v1, v2, v3, some (.ref b), v5] (.ref a :: st) A Q ↔ XX d 249 17 [v0, v1, v2, v3, some (.ref b), some (.ref a)] st A Q := c_lcl i_249_15 rfl rfl
theorem q_249_17 : XX d 249 17 [v0, v1, v2, v3, v4, v5] st A Q ↔ XX d 249 18 [v0, v1, v2, v3, v4, v5] (.int (w 1) :: st) A Q := c_stk i_249_17 rfl
theorem q_249_18 : XX d 249 18 [v0, v1, v2, v3, v4, v5] [.int x] A Q ↔ Q (.inl (some (.int x))) A := e_retI i_249_18 rfl
theorem q_249_19 : XX d 249 19 [v0, v1, v2, v3, some (.ref b), v5] (.ref a :: st) A Q ↔ XX d 249 21 [v0, v1, v2, v3, some (.ref b), some (.ref a)] st A Q := c_lcl i_249_19 rfl rfl
theorem q_249_21 : XX d 249 21 [v0, v1, v2, v3, v4, v5] st A Q ↔ XX d 249 22 [v0, v1, v2, v3, v4, v5] (.int (w 2) :: st) A Q := c_stk i_249_21 rfl
theorem q_249_22 : XX d 249 22 [v0, v1, v2, v3, v4, v5] [.int x] A Q ↔ Q (.inl (some (.int x))) A := e_retI i_249_22 rfl
theorem q_249_23 : XX d 249 23 [v0, v1, v2, v3, v4, v5] st A Q ↔ XX d 249 24 [v0, v1, v2, v3, v4, v5] (.int (w 0) :: st) A Q := c_stk i_249_23 rfl
theorem q_249_24 : XX d 249 24 [v0, v1, v2, v3, v4, v5] [.int x] A Q ↔ Q (.inl (some (.int x))) A := e_retI i_249_24 rfl
theorem q_249_e : XC d 249 [.ref a0, .int x1, .int x2, .int x3, .ref a4] A Q ↔ XX d 249 0 [some (.ref a0), some (.int x1), some (.int x2), some (.int x3), some (.ref a4), none] [] A Q := Iff.rfl
theorem i_250_0 : t_ins 250 0 = some (.aload 4) := by decide +kernel
theorem i_250_2 : t_ins 250 2 = some (.iconst 0) := by decide +kernel
theorem i_250_3 : t_ins 250 3 = some (.aload_n 0) := by decide +kernel
theorem i_250_4 : t_ins 250 4 = some (.iload_n 1) := by decide +kernel
theorem i_250_5 : t_ins 250 5 = some (.iload_n 2) := by decide +kernel
theorem i_250_6 : t_ins 250 6 = some (.iload_n 3) := by decide +kernel
theorem i_250_7 : t_ins 250 7 = some (.invokevirtual 47) := by decide +kernel
theorem i_250_10 : t_ins 250 10 = some (.i2l) := by decide +kernel
theorem i_250_11 : t_ins 250 11 = some (.lastore) := by decide +kernel
theorem i_250_12 : t_ins 250 12 = some (.goto 7) := by decide +kernel
theorem i_250_15 : t_ins 250 15 = some (.astore 5) := by decide +kernel
theorem i_250_17 : t_ins 250 17 = some (.iconst 1) := by decide +kernel
theorem i_250_18 : t_ins 250 18 = some (.ireturn) := by decide +kernel
theorem i_250_19 : t_ins 250 19 = some (.iconst 0) := by decide +kernel
theorem i_250_20 : t_ins 250 20 = some (.ireturn) := by decide +kernel
theorem q_250_0 : XX d 250 0 [v0, v1, v2, v3, some (.ref a), v5] st A Q ↔ XX d 250 2 [v0, v1, v2, v3, some (.ref a), v5] (.ref a :: st) A Q := c_lcl i_250_0 rfl rfl
theorem q_250_2 : XX d 250 2 [v0, v1, v2, v3, v4, v5] st A Q ↔ XX d 250 3 [v0, v1, v2, v3, v4, v5] (.int (w 0) :: st) A Q := c_stk i_250_2 rfl
theorem q_250_3 : XX d 250 3 [some (.ref a), v1, v2, v3, v4, v5] st A Q ↔ XX d 250 4 [some (.ref a), v1, v2, v3, v4, v5] (.ref a :: st) A Q := c_lcl i_250_3 rfl rfl
theorem q_250_4 : XX d 250 4 [v0, some (.int x), v2, v3, v4, v5] st A Q ↔ XX d 250 5 [v0, some (.int x), v2, v3, v4, v5] (.int x :: st) A Q := c_lcl i_250_4 rfl rfl
theorem q_250_5 : XX d 250 5 [v0, v1, some (.int x), v3, v4, v5] st A Q ↔ XX d 250 6 [v0, v1, some (.int x), v3, v4, v5] (.int x :: st) A Q := c_lcl i_250_5 rfl rfl
theorem q_250_6 : XX d 250 6 [v0, v1, v2, some (.int x), v4, v5] st A Q ↔ XX d 250 7 [v0, v1, v2, some (.int x), v4, v5] (.int x :: st) A Q := c_lcl i_250_6 rfl rfl
theorem q_250_7 : XX (d + 1) 250 7 [v0, v1, v2, v3, v4, v5] [.int x3, .int x2, .int x1, .ref a0, .int x4, .ref a5] (mk S I L R G) Q ↔ S a0 = some (.inr 11) ∧ XC d 120 [.ref a0, .int x1, .int x2, .int x3] (mk S I L R G) (XK (d + 1) 250 7 [v0, v1, v2, v3, v4, v5] [.int x4, .ref a5] Q) := c_callV i_250_7 rfl rfl rfl rfl (Nat.le_of_ble_eq_true rfl) (Nat.le_of_ble_eq_true rfl) rfl
theorem q_250_10 : XX d 250 10 [v0, v1, v2, v3, v4, v5] (.int x :: st) A Q ↔ XX d 250 11 [v0, v1, v2, v3, v4, v5] (.long x.toInt64 :: st) A Q := c_stk i_250_10 rfl
theorem q_250_11 : XX d 250 11 [v0, v1, v2, v3, v4, v5] (.long ly :: .int x :: .ref a :: st) (mk S I L R G) Q ↔ inA (S a) ok_l x ∧ XX d 250 12 [v0, v1, v2, v3, v4, v5] st (mk S I (wr L a (up (L a) (ix x) ly)) R G) Q := r_las i_250_11
theorem q_250_12 : XX d 250 12 [v0, v1, v2, v3, v4, v5] st A Q ↔ XX d 250 19 [v0, v1, v2, v3, v4, v5] st A Q := c_go i_250_12 rfl rfl
theorem q_250_15 : XX d 250 15 [v0, v1, v2, v3, some (.ref b), v5] (.ref a :: st) A Q ↔ XX d 250 17 [v0, v1, v2, v3, some (.ref b), some (.ref a)] st A Q := c_lcl i_250_15 rfl rfl
theorem q_250_17 : XX d 250 17 [v0, v1, v2, v3, v4, v5] st A Q ↔ XX d 250 18 [v0, v1, v2, v3, v4, v5] (.int (w 1) :: st) A Q := c_stk i_250_17 rfl
theorem q_250_18 : XX d 250 18 [v0, v1, v2, v3, v4, v5] [.int x] A Q ↔ Q (.inl (some (.int x))) A := e_retI i_250_18 rfl
theorem q_250_19 : XX d 250 19 [v0, v1, v2, v3, v4, v5] st A Q ↔ XX d 250 20 [v0, v1, v2, v3, v4, v5] (.int (w 0) :: st) A Q := c_stk i_250_19 rfl
theorem q_250_20 : XX d 250 20 [v0, v1, v2, v3, v4, v5] [.int x] A Q ↔ Q (.inl (some (.int x))) A := e_retI i_250_20 rfl
theorem q_250_e : XC d 250 [.ref a0, .int x1, .int x2, .int x3, .ref a4] A Q ↔ XX d 250 0 [some (.ref a0), some (.int x1), some (.int x2), some (.int x3), some (.ref a4), none] [] A Q := Iff.rfl
theorem i_251_0 : t_ins 251 0 = some (.aload_n 3) := by decide +kernel
theorem i_251_1 : t_ins 251 1 = some (.iconst 0) := by decide +kernel
theorem i_251_2 : t_ins 251 2 = some (.aload_n 0) := by decide +kernel
theorem i_251_3 : t_ins 251 3 = some (.iload_n 1) := by decide +kernel
theorem i_251_4 : t_ins 251 4 = some (.iload_n 2) := by decide +kernel
theorem i_251_5 : t_ins 251 5 = some (.invokevirtual 50) := by decide +kernel
theorem i_251_8 : t_ins 251 8 = some (.i2l) := by decide +kernel
theorem i_251_9 : t_ins 251 9 = some (.lastore) := by decide +kernel
theorem i_251_10 : t_ins 251 10 = some (.goto 7) := by decide +kernel
theorem i_251_13 : t_ins 251 13 = some (.astore 4) := by decide +kernel
theorem i_251_15 : t_ins 251 15 = some (.iconst 1) := by decide +kernel
theorem i_251_16 : t_ins 251 16 = some (.ireturn) := by decide +kernel
theorem i_251_17 : t_ins 251 17 = some (.iconst 0) := by decide +kernel
theorem i_251_18 : t_ins 251 18 = some (.ireturn) := by decide +kernel
theorem q_251_0 : XX d 251 0 [v0, v1, v2, some (.ref a), v4] st A Q ↔ XX d 251 1 [v0, v1, v2, some (.ref a), v4] (.ref a :: st) A Q := c_lcl i_251_0 rfl rfl
theorem q_251_1 : XX d 251 1 [v0, v1, v2, v3, v4] st A Q ↔ XX d 251 2 [v0, v1, v2, v3, v4] (.int (w 0) :: st) A Q := c_stk i_251_1 rfl
theorem q_251_2 : XX d 251 2 [some (.ref a), v1, v2, v3, v4] st A Q ↔ XX d 251 3 [some (.ref a), v1, v2, v3, v4] (.ref a :: st) A Q := c_lcl i_251_2 rfl rfl
theorem q_251_3 : XX d 251 3 [v0, some (.int x), v2, v3, v4] st A Q ↔ XX d 251 4 [v0, some (.int x), v2, v3, v4] (.int x :: st) A Q := c_lcl i_251_3 rfl rfl
theorem q_251_4 : XX d 251 4 [v0, v1, some (.int x), v3, v4] st A Q ↔ XX d 251 5 [v0, v1, some (.int x), v3, v4] (.int x :: st) A Q := c_lcl i_251_4 rfl rfl
theorem q_251_5 : XX (d + 1) 251 5 [v0, v1, v2, v3, v4] [.int x2, .int x1, .ref a0, .int x3, .ref a4] (mk S I L R G) Q ↔ S a0 = some (.inr 11) ∧ XC d 121 [.ref a0, .int x1, .int x2] (mk S I L R G) (XK (d + 1) 251 5 [v0, v1, v2, v3, v4] [.int x3, .ref a4] Q) := c_callV i_251_5 rfl rfl rfl rfl (Nat.le_of_ble_eq_true rfl) (Nat.le_of_ble_eq_true rfl) rfl
theorem q_251_8 : XX d 251 8 [v0, v1, v2, v3, v4] (.int x :: st) A Q ↔ XX d 251 9 [v0, v1, v2, v3, v4] (.long x.toInt64 :: st) A Q := c_stk i_251_8 rfl
theorem q_251_9 : XX d 251 9 [v0, v1, v2, v3, v4] (.long ly :: .int x :: .ref a :: st) (mk S I L R G) Q ↔ inA (S a) ok_l x ∧ XX d 251 10 [v0, v1, v2, v3, v4] st (mk S I (wr L a (up (L a) (ix x) ly)) R G) Q := r_las i_251_9
theorem q_251_10 : XX d 251 10 [v0, v1, v2, v3, v4] st A Q ↔ XX d 251 17 [v0, v1, v2, v3, v4] st A Q := c_go i_251_10 rfl rfl
theorem q_251_13 : XX d 251 13 [v0, v1, v2, some (.ref b), v4] (.ref a :: st) A Q ↔ XX d 251 15 [v0, v1, v2, some (.ref b), some (.ref a)] st A Q := c_lcl i_251_13 rfl rfl
theorem q_251_15 : XX d 251 15 [v0, v1, v2, v3, v4] st A Q ↔ XX d 251 16 [v0, v1, v2, v3, v4] (.int (w 1) :: st) A Q := c_stk i_251_15 rfl
theorem q_251_16 : XX d 251 16 [v0, v1, v2, v3, v4] [.int x] A Q ↔ Q (.inl (some (.int x))) A := e_retI i_251_16 rfl
theorem q_251_17 : XX d 251 17 [v0, v1, v2, v3, v4] st A Q ↔ XX d 251 18 [v0, v1, v2, v3, v4] (.int (w 0) :: st) A Q := c_stk i_251_17 rfl
theorem q_251_18 : XX d 251 18 [v0, v1, v2, v3, v4] [.int x] A Q ↔ Q (.inl (some (.int x))) A := e_retI i_251_18 rfl
theorem q_251_e : XC d 251 [.ref a0, .int x1, .int x2, .ref a3] A Q ↔ XX d 251 0 [some (.ref a0), some (.int x1), some (.int x2), some (.ref a3), none] [] A Q := Iff.rfl
theorem i_252_0 : t_ins 252 0 = some (.aload_n 3) := by decide +kernel
theorem i_252_1 : t_ins 252 1 = some (.iconst 0) := by decide +kernel
theorem i_252_2 : t_ins 252 2 = some (.aload_n 0) := by decide +kernel
theorem i_252_3 : t_ins 252 3 = some (.iload_n 1) := by decide +kernel
theorem i_252_4 : t_ins 252 4 = some (.iload_n 2) := by decide +kernel
theorem i_252_5 : t_ins 252 5 = some (.invokevirtual 53) := by decide +kernel
theorem i_252_8 : t_ins 252 8 = some (.i2l) := by decide +kernel
theorem i_252_9 : t_ins 252 9 = some (.lastore) := by decide +kernel
theorem i_252_10 : t_ins 252 10 = some (.goto 7) := by decide +kernel
theorem i_252_13 : t_ins 252 13 = some (.astore 4) := by decide +kernel
theorem i_252_15 : t_ins 252 15 = some (.iconst 1) := by decide +kernel
theorem i_252_16 : t_ins 252 16 = some (.ireturn) := by decide +kernel
theorem i_252_17 : t_ins 252 17 = some (.iconst 0) := by decide +kernel
theorem i_252_18 : t_ins 252 18 = some (.ireturn) := by decide +kernel
theorem q_252_0 : XX d 252 0 [v0, v1, v2, some (.ref a), v4] st A Q ↔ XX d 252 1 [v0, v1, v2, some (.ref a), v4] (.ref a :: st) A Q := c_lcl i_252_0 rfl rfl
theorem q_252_1 : XX d 252 1 [v0, v1, v2, v3, v4] st A Q ↔ XX d 252 2 [v0, v1, v2, v3, v4] (.int (w 0) :: st) A Q := c_stk i_252_1 rfl
theorem q_252_2 : XX d 252 2 [some (.ref a), v1, v2, v3, v4] st A Q ↔ XX d 252 3 [some (.ref a), v1, v2, v3, v4] (.ref a :: st) A Q := c_lcl i_252_2 rfl rfl
theorem q_252_3 : XX d 252 3 [v0, some (.int x), v2, v3, v4] st A Q ↔ XX d 252 4 [v0, some (.int x), v2, v3, v4] (.int x :: st) A Q := c_lcl i_252_3 rfl rfl
theorem q_252_4 : XX d 252 4 [v0, v1, some (.int x), v3, v4] st A Q ↔ XX d 252 5 [v0, v1, some (.int x), v3, v4] (.int x :: st) A Q := c_lcl i_252_4 rfl rfl
theorem q_252_5 : XX (d + 1) 252 5 [v0, v1, v2, v3, v4] [.int x2, .int x1, .ref a0, .int x3, .ref a4] (mk S I L R G) Q ↔ S a0 = some (.inr 11) ∧ XC d 122 [.ref a0, .int x1, .int x2] (mk S I L R G) (XK (d + 1) 252 5 [v0, v1, v2, v3, v4] [.int x3, .ref a4] Q) := c_callV i_252_5 rfl rfl rfl rfl (Nat.le_of_ble_eq_true rfl) (Nat.le_of_ble_eq_true rfl) rfl
theorem q_252_8 : XX d 252 8 [v0, v1, v2, v3, v4] (.int x :: st) A Q ↔ XX d 252 9 [v0, v1, v2, v3, v4] (.long x.toInt64 :: st) A Q := c_stk i_252_8 rfl
theorem q_252_9 : XX d 252 9 [v0, v1, v2, v3, v4] (.long ly :: .int x :: .ref a :: st) (mk S I L R G) Q ↔ inA (S a) ok_l x ∧ XX d 252 10 [v0, v1, v2, v3, v4] st (mk S I (wr L a (up (L a) (ix x) ly)) R G) Q := r_las i_252_9
theorem q_252_10 : XX d 252 10 [v0, v1, v2, v3, v4] st A Q ↔ XX d 252 17 [v0, v1, v2, v3, v4] st A Q := c_go i_252_10 rfl rfl
theorem q_252_13 : XX d 252 13 [v0, v1, v2, some (.ref b), v4] (.ref a :: st) A Q ↔ XX d 252 15 [v0, v1, v2, some (.ref b), some (.ref a)] st A Q := c_lcl i_252_13 rfl rfl
theorem q_252_15 : XX d 252 15 [v0, v1, v2, v3, v4] st A Q ↔ XX d 252 16 [v0, v1, v2, v3, v4] (.int (w 1) :: st) A Q := c_stk i_252_15 rfl
theorem q_252_16 : XX d 252 16 [v0, v1, v2, v3, v4] [.int x] A Q ↔ Q (.inl (some (.int x))) A := e_retI i_252_16 rfl
theorem q_252_17 : XX d 252 17 [v0, v1, v2, v3, v4] st A Q ↔ XX d 252 18 [v0, v1, v2, v3, v4] (.int (w 0) :: st) A Q := c_stk i_252_17 rfl
theorem q_252_18 : XX d 252 18 [v0, v1, v2, v3, v4] [.int x] A Q ↔ Q (.inl (some (.int x))) A := e_retI i_252_18 rfl
theorem q_252_e : XC d 252 [.ref a0, .int x1, .int x2, .ref a3] A Q ↔ XX d 252 0 [some (.ref a0), some (.int x1), some (.int x2), some (.ref a3), none] [] A Q := Iff.rfl
theorem i_253_0 : t_ins 253 0 = some (.aload 5) := by decide +kernel
theorem i_253_2 : t_ins 253 2 = some (.iconst 0) := by decide +kernel
theorem i_253_3 : t_ins 253 3 = some (.aload_n 0) := by decide +kernel
theorem i_253_4 : t_ins 253 4 = some (.iload_n 1) := by decide +kernel
theorem i_253_5 : t_ins 253 5 = some (.iload_n 2) := by decide +kernel
theorem i_253_6 : t_ins 253 6 = some (.iload_n 3) := by decide +kernel
theorem i_253_7 : t_ins 253 7 = some (.iload 4) := by decide +kernel
theorem i_253_9 : t_ins 253 9 = some (.invokevirtual 56) := by decide +kernel
theorem i_253_12 : t_ins 253 12 = some (.i2l) := by decide +kernel
theorem i_253_13 : t_ins 253 13 = some (.lastore) := by decide +kernel
theorem i_253_14 : t_ins 253 14 = some (.goto 11) := by decide +kernel
theorem i_253_17 : t_ins 253 17 = some (.astore 6) := by decide +kernel
theorem i_253_19 : t_ins 253 19 = some (.iconst 1) := by decide +kernel
theorem i_253_20 : t_ins 253 20 = some (.ireturn) := by decide +kernel
theorem i_253_21 : t_ins 253 21 = some (.astore 6) := by decide +kernel
theorem i_253_23 : t_ins 253 23 = some (.iconst 2) := by decide +kernel
theorem i_253_24 : t_ins 253 24 = some (.ireturn) := by decide +kernel
theorem i_253_25 : t_ins 253 25 = some (.iconst 0) := by decide +kernel
theorem i_253_26 : t_ins 253 26 = some (.ireturn) := by decide +kernel
theorem q_253_0 : XX d 253 0 [v0, v1, v2, v3, v4, some (.ref a), v6] st A Q ↔ XX d 253 2 [v0, v1, v2, v3, v4, some (.ref a), v6] (.ref a :: st) A Q := c_lcl i_253_0 rfl rfl
theorem q_253_2 : XX d 253 2 [v0, v1, v2, v3, v4, v5, v6] st A Q ↔ XX d 253 3 [v0, v1, v2, v3, v4, v5, v6] (.int (w 0) :: st) A Q := c_stk i_253_2 rfl
theorem q_253_3 : XX d 253 3 [some (.ref a), v1, v2, v3, v4, v5, v6] st A Q ↔ XX d 253 4 [some (.ref a), v1, v2, v3, v4, v5, v6] (.ref a :: st) A Q := c_lcl i_253_3 rfl rfl
theorem q_253_4 : XX d 253 4 [v0, some (.int x), v2, v3, v4, v5, v6] st A Q ↔ XX d 253 5 [v0, some (.int x), v2, v3, v4, v5, v6] (.int x :: st) A Q := c_lcl i_253_4 rfl rfl
theorem q_253_5 : XX d 253 5 [v0, v1, some (.int x), v3, v4, v5, v6] st A Q ↔ XX d 253 6 [v0, v1, some (.int x), v3, v4, v5, v6] (.int x :: st) A Q := c_lcl i_253_5 rfl rfl
theorem q_253_6 : XX d 253 6 [v0, v1, v2, some (.int x), v4, v5, v6] st A Q ↔ XX d 253 7 [v0, v1, v2, some (.int x), v4, v5, v6] (.int x :: st) A Q := c_lcl i_253_6 rfl rfl
theorem q_253_7 : XX d 253 7 [v0, v1, v2, v3, some (.int x), v5, v6] st A Q ↔ XX d 253 9 [v0, v1, v2, v3, some (.int x), v5, v6] (.int x :: st) A Q := c_lcl i_253_7 rfl rfl
theorem q_253_9 : XX (d + 1) 253 9 [v0, v1, v2, v3, v4, v5, v6] [.int x4, .int x3, .int x2, .int x1, .ref a0, .int x5, .ref a6] (mk S I L R G) Q ↔ S a0 = some (.inr 11) ∧ XC d 123 [.ref a0, .int x1, .int x2, .int x3, .int x4] (mk S I L R G) (XK (d + 1) 253 9 [v0, v1, v2, v3, v4, v5, v6] [.int x5, .ref a6] Q) := c_callV i_253_9 rfl rfl rfl rfl (Nat.le_of_ble_eq_true rfl) (Nat.le_of_ble_eq_true rfl) rfl
theorem q_253_12 : XX d 253 12 [v0, v1, v2, v3, v4, v5, v6] (.int x :: st) A Q ↔ XX d 253 13 [v0, v1, v2, v3, v4, v5, v6] (.long x.toInt64 :: st) A Q := c_stk i_253_12 rfl
theorem q_253_13 : XX d 253 13 [v0, v1, v2, v3, v4, v5, v6] (.long ly :: .int x :: .ref a :: st) (mk S I L R G) Q ↔ inA (S a) ok_l x ∧ XX d 253 14 [v0, v1, v2, v3, v4, v5, v6] st (mk S I (wr L a (up (L a) (ix x) ly)) R G) Q := r_las i_253_13
theorem q_253_14 : XX d 253 14 [v0, v1, v2, v3, v4, v5, v6] st A Q ↔ XX d 253 25 [v0, v1, v2, v3, v4, v5, v6] st A Q := c_go i_253_14 rfl rfl
theorem q_253_17 : XX d 253 17 [v0, v1, v2, v3, v4, some (.ref b), v6] (.ref a :: st) A Q ↔ XX d 253 19 [v0, v1, v2, v3, v4, some (.ref b), some (.ref a)] st A Q := c_lcl i_253_17 rfl rfl
theorem q_253_19 : XX d 253 19 [v0, v1, v2, v3, v4, v5, v6] st A Q ↔ XX d 253 20 [v0, v1, v2, v3, v4, v5, v6] (.int (w 1) :: st) A Q := c_stk i_253_19 rfl
theorem q_253_20 : XX d 253 20 [v0, v1, v2, v3, v4, v5, v6] [.int x] A Q ↔ Q (.inl (some (.int x))) A := e_retI i_253_20 rfl
theorem q_253_21 : XX d 253 21 [v0, v1, v2, v3, v4, some (.ref b), v6] (.ref a :: st) A Q ↔ XX d 253 23 [v0, v1, v2, v3, v4, some (.ref b), some (.ref a)] st A Q := c_lcl i_253_21 rfl rfl
theorem q_253_23 : XX d 253 23 [v0, v1, v2, v3, v4, v5, v6] st A Q ↔ XX d 253 24 [v0, v1, v2, v3, v4, v5, v6] (.int (w 2) :: st) A Q := c_stk i_253_23 rfl
theorem q_253_24 : XX d 253 24 [v0, v1, v2, v3, v4, v5, v6] [.int x] A Q ↔ Q (.inl (some (.int x))) A := e_retI i_253_24 rfl
theorem q_253_25 : XX d 253 25 [v0, v1, v2, v3, v4, v5, v6] st A Q ↔ XX d 253 26 [v0, v1, v2, v3, v4, v5, v6] (.int (w 0) :: st) A Q := c_stk i_253_25 rfl
theorem q_253_26 : XX d 253 26 [v0, v1, v2, v3, v4, v5, v6] [.int x] A Q ↔ Q (.inl (some (.int x))) A := e_retI i_253_26 rfl
theorem q_253_e : XC d 253 [.ref a0, .int x1, .int x2, .int x3, .int x4, .ref a5] A Q ↔ XX d 253 0 [some (.ref a0), some (.int x1), some (.int x2), some (.int x3), some (.int x4), some (.ref a5), none] [] A Q := Iff.rfl
theorem i_254_0 : t_ins 254 0 = some (.aload_n 3) := by decide +kernel
theorem i_254_1 : t_ins 254 1 = some (.iconst 0) := by decide +kernel
theorem i_254_2 : t_ins 254 2 = some (.aload_n 0) := by decide +kernel
theorem i_254_3 : t_ins 254 3 = some (.iload_n 1) := by decide +kernel
theorem i_254_4 : t_ins 254 4 = some (.iload_n 2) := by decide +kernel
theorem i_254_5 : t_ins 254 5 = some (.invokevirtual 59) := by decide +kernel
theorem i_254_8 : t_ins 254 8 = some (.i2l) := by decide +kernel
theorem i_254_9 : t_ins 254 9 = some (.lastore) := by decide +kernel
theorem i_254_10 : t_ins 254 10 = some (.goto 11) := by decide +kernel
theorem i_254_13 : t_ins 254 13 = some (.astore 4) := by decide +kernel
theorem i_254_15 : t_ins 254 15 = some (.iconst 1) := by decide +kernel
theorem i_254_16 : t_ins 254 16 = some (.ireturn) := by decide +kernel
theorem i_254_17 : t_ins 254 17 = some (.astore 4) := by decide +kernel
theorem i_254_19 : t_ins 254 19 = some (.iconst 2) := by decide +kernel
theorem i_254_20 : t_ins 254 20 = some (.ireturn) := by decide +kernel
theorem i_254_21 : t_ins 254 21 = some (.iconst 0) := by decide +kernel
theorem i_254_22 : t_ins 254 22 = some (.ireturn) := by decide +kernel
theorem q_254_0 : XX d 254 0 [v0, v1, v2, some (.ref a), v4] st A Q ↔ XX d 254 1 [v0, v1, v2, some (.ref a), v4] (.ref a :: st) A Q := c_lcl i_254_0 rfl rfl
theorem q_254_1 : XX d 254 1 [v0, v1, v2, v3, v4] st A Q ↔ XX d 254 2 [v0, v1, v2, v3, v4] (.int (w 0) :: st) A Q := c_stk i_254_1 rfl
theorem q_254_2 : XX d 254 2 [some (.ref a), v1, v2, v3, v4] st A Q ↔ XX d 254 3 [some (.ref a), v1, v2, v3, v4] (.ref a :: st) A Q := c_lcl i_254_2 rfl rfl
theorem q_254_3 : XX d 254 3 [v0, some (.int x), v2, v3, v4] st A Q ↔ XX d 254 4 [v0, some (.int x), v2, v3, v4] (.int x :: st) A Q := c_lcl i_254_3 rfl rfl
theorem q_254_4 : XX d 254 4 [v0, v1, some (.int x), v3, v4] st A Q ↔ XX d 254 5 [v0, v1, some (.int x), v3, v4] (.int x :: st) A Q := c_lcl i_254_4 rfl rfl
theorem q_254_5 : XX (d + 1) 254 5 [v0, v1, v2, v3, v4] [.int x2, .int x1, .ref a0, .int x3, .ref a4] (mk S I L R G) Q ↔ S a0 = some (.inr 11) ∧ XC d 124 [.ref a0, .int x1, .int x2] (mk S I L R G) (XK (d + 1) 254 5 [v0, v1, v2, v3, v4] [.int x3, .ref a4] Q) := c_callV i_254_5 rfl rfl rfl rfl (Nat.le_of_ble_eq_true rfl) (Nat.le_of_ble_eq_true rfl) rfl
theorem q_254_8 : XX d 254 8 [v0, v1, v2, v3, v4] (.int x :: st) A Q ↔ XX d 254 9 [v0, v1, v2, v3, v4] (.long x.toInt64 :: st) A Q := c_stk i_254_8 rfl
theorem q_254_9 : XX d 254 9 [v0, v1, v2, v3, v4] (.long ly :: .int x :: .ref a :: st) (mk S I L R G) Q ↔ inA (S a) ok_l x ∧ XX d 254 10 [v0, v1, v2, v3, v4] st (mk S I (wr L a (up (L a) (ix x) ly)) R G) Q := r_las i_254_9
theorem q_254_10 : XX d 254 10 [v0, v1, v2, v3, v4] st A Q ↔ XX d 254 21 [v0, v1, v2, v3, v4] st A Q := c_go i_254_10 rfl rfl
theorem q_254_13 : XX d 254 13 [v0, v1, v2, some (.ref b), v4] (.ref a :: st) A Q ↔ XX d 254 15 [v0, v1, v2, some (.ref b), some (.ref a)] st A Q := c_lcl i_254_13 rfl rfl
theorem q_254_15 : XX d 254 15 [v0, v1, v2, v3, v4] st A Q ↔ XX d 254 16 [v0, v1, v2, v3, v4] (.int (w 1) :: st) A Q := c_stk i_254_15 rfl
theorem q_254_16 : XX d 254 16 [v0, v1, v2, v3, v4] [.int x] A Q ↔ Q (.inl (some (.int x))) A := e_retI i_254_16 rfl
theorem q_254_17 : XX d 254 17 [v0, v1, v2, some (.ref b), v4] (.ref a :: st) A Q ↔ XX d 254 19 [v0, v1, v2, some (.ref b), some (.ref a)] st A Q := c_lcl i_254_17 rfl rfl
theorem q_254_19 : XX d 254 19 [v0, v1, v2, v3, v4] st A Q ↔ XX d 254 20 [v0, v1, v2, v3, v4] (.int (w 2) :: st) A Q := c_stk i_254_19 rfl
theorem q_254_20 : XX d 254 20 [v0, v1, v2, v3, v4] [.int x] A Q ↔ Q (.inl (some (.int x))) A := e_retI i_254_20 rfl
theorem q_254_21 : XX d 254 21 [v0, v1, v2, v3, v4] st A Q ↔ XX d 254 22 [v0, v1, v2, v3, v4] (.int (w 0) :: st) A Q := c_stk i_254_21 rfl
theorem q_254_22 : XX d 254 22 [v0, v1, v2, v3, v4] [.int x] A Q ↔ Q (.inl (some (.int x))) A := e_retI i_254_22 rfl
theorem q_254_e : XC d 254 [.ref a0, .int x1, .int x2, .ref a3] A Q ↔ XX d 254 0 [some (.ref a0), some (.int x1), some (.int x2), some (.ref a3), none] [] A Q := Iff.rfl
theorem i_255_0 : t_ins 255 0 = some (.aload_n 3) := by decide +kernel
theorem i_255_1 : t_ins 255 1 = some (.iconst 0) := by decide +kernel
theorem i_255_2 : t_ins 255 2 = some (.aload_n 0) := by decide +kernel
theorem i_255_3 : t_ins 255 3 = some (.iload_n 1) := by decide +kernel
theorem i_255_4 : t_ins 255 4 = some (.iload_n 2) := by decide +kernel
theorem i_255_5 : t_ins 255 5 = some (.invokevirtual 62) := by decide +kernel
theorem i_255_8 : t_ins 255 8 = some (.i2l) := by decide +kernel
theorem i_255_9 : t_ins 255 9 = some (.lastore) := by decide +kernel
theorem i_255_10 : t_ins 255 10 = some (.goto 11) := by decide +kernel
theorem i_255_13 : t_ins 255 13 = some (.astore 4) := by decide +kernel
theorem i_255_15 : t_ins 255 15 = some (.iconst 1) := by decide +kernel
theorem i_255_16 : t_ins 255 16 = some (.ireturn) := by decide +kernel
theorem i_255_17 : t_ins 255 17 = some (.astore 4) := by decide +kernel
theorem i_255_19 : t_ins 255 19 = some (.iconst 2) := by decide +kernel
theorem i_255_20 : t_ins 255 20 = some (.ireturn) := by decide +kernel
theorem i_255_21 : t_ins 255 21 = some (.iconst 0) := by decide +kernel
theorem i_255_22 : t_ins 255 22 = some (.ireturn) := by decide +kernel
theorem q_255_0 : XX d 255 0 [v0, v1, v2, some (.ref a), v4] st A Q ↔ XX d 255 1 [v0, v1, v2, some (.ref a), v4] (.ref a :: st) A Q := c_lcl i_255_0 rfl rfl
theorem q_255_1 : XX d 255 1 [v0, v1, v2, v3, v4] st A Q ↔ XX d 255 2 [v0, v1, v2, v3, v4] (.int (w 0) :: st) A Q := c_stk i_255_1 rfl
theorem q_255_2 : XX d 255 2 [some (.ref a), v1, v2, v3, v4] st A Q ↔ XX d 255 3 [some (.ref a), v1, v2, v3, v4] (.ref a :: st) A Q := c_lcl i_255_2 rfl rfl
theorem q_255_3 : XX d 255 3 [v0, some (.int x), v2, v3, v4] st A Q ↔ XX d 255 4 [v0, some (.int x), v2, v3, v4] (.int x :: st) A Q := c_lcl i_255_3 rfl rfl
theorem q_255_4 : XX d 255 4 [v0, v1, some (.int x), v3, v4] st A Q ↔ XX d 255 5 [v0, v1, some (.int x), v3, v4] (.int x :: st) A Q := c_lcl i_255_4 rfl rfl
theorem q_255_5 : XX (d + 1) 255 5 [v0, v1, v2, v3, v4] [.int x2, .int x1, .ref a0, .int x3, .ref a4] (mk S I L R G) Q ↔ S a0 = some (.inr 11) ∧ XC d 125 [.ref a0, .int x1, .int x2] (mk S I L R G) (XK (d + 1) 255 5 [v0, v1, v2, v3, v4] [.int x3, .ref a4] Q) := c_callV i_255_5 rfl rfl rfl rfl (Nat.le_of_ble_eq_true rfl) (Nat.le_of_ble_eq_true rfl) rfl
theorem q_255_8 : XX d 255 8 [v0, v1, v2, v3, v4] (.int x :: st) A Q ↔ XX d 255 9 [v0, v1, v2, v3, v4] (.long x.toInt64 :: st) A Q := c_stk i_255_8 rfl
theorem q_255_9 : XX d 255 9 [v0, v1, v2, v3, v4] (.long ly :: .int x :: .ref a :: st) (mk S I L R G) Q ↔ inA (S a) ok_l x ∧ XX d 255 10 [v0, v1, v2, v3, v4] st (mk S I (wr L a (up (L a) (ix x) ly)) R G) Q := r_las i_255_9
theorem q_255_10 : XX d 255 10 [v0, v1, v2, v3, v4] st A Q ↔ XX d 255 21 [v0, v1, v2, v3, v4] st A Q := c_go i_255_10 rfl rfl
theorem q_255_13 : XX d 255 13 [v0, v1, v2, some (.ref b), v4] (.ref a :: st) A Q ↔ XX d 255 15 [v0, v1, v2, some (.ref b), some (.ref a)] st A Q := c_lcl i_255_13 rfl rfl
theorem q_255_15 : XX d 255 15 [v0, v1, v2, v3, v4] st A Q ↔ XX d 255 16 [v0, v1, v2, v3, v4] (.int (w 1) :: st) A Q := c_stk i_255_15 rfl
theorem q_255_16 : XX d 255 16 [v0, v1, v2, v3, v4] [.int x] A Q ↔ Q (.inl (some (.int x))) A := e_retI i_255_16 rfl
theorem q_255_17 : XX d 255 17 [v0, v1, v2, some (.ref b), v4] (.ref a :: st) A Q ↔ XX d 255 19 [v0, v1, v2, some (.ref b), some (.ref a)] st A Q := c_lcl i_255_17 rfl rfl
theorem q_255_19 : XX d 255 19 [v0, v1, v2, v3, v4] st A Q ↔ XX d 255 20 [v0, v1, v2, v3, v4] (.int (w 2) :: st) A Q := c_stk i_255_19 rfl
theorem q_255_20 : XX d 255 20 [v0, v1, v2, v3, v4] [.int x] A Q ↔ Q (.inl (some (.int x))) A := e_retI i_255_20 rfl
theorem q_255_21 : XX d 255 21 [v0, v1, v2, v3, v4] st A Q ↔ XX d 255 22 [v0, v1, v2, v3, v4] (.int (w 0) :: st) A Q := c_stk i_255_21 rfl
theorem q_255_22 : XX d 255 22 [v0, v1, v2, v3, v4] [.int x] A Q ↔ Q (.inl (some (.int x))) A := e_retI i_255_22 rfl
theorem q_255_e : XC d 255 [.ref a0, .int x1, .int x2, .ref a3] A Q ↔ XX d 255 0 [some (.ref a0), some (.int x1), some (.int x2), some (.ref a3), none] [] A Q := Iff.rfl
theorem i_256_0 : t_ins 256 0 = some (.aload 4) := by decide +kernel
theorem i_256_2 : t_ins 256 2 = some (.iconst 0) := by decide +kernel
theorem i_256_3 : t_ins 256 3 = some (.aload_n 0) := by decide +kernel
theorem i_256_4 : t_ins 256 4 = some (.iload_n 1) := by decide +kernel
theorem i_256_5 : t_ins 256 5 = some (.iload_n 2) := by decide +kernel
theorem i_256_6 : t_ins 256 6 = some (.iload_n 3) := by decide +kernel
theorem i_256_7 : t_ins 256 7 = some (.invokevirtual 65) := by decide +kernel
theorem i_256_10 : t_ins 256 10 = some (.i2l) := by decide +kernel
theorem i_256_11 : t_ins 256 11 = some (.lastore) := by decide +kernel
theorem i_256_12 : t_ins 256 12 = some (.goto 11) := by decide +kernel
theorem i_256_15 : t_ins 256 15 = some (.astore 5) := by decide +kernel
theorem i_256_17 : t_ins 256 17 = some (.iconst 1) := by decide +kernel
theorem i_256_18 : t_ins 256 18 = some (.ireturn) := by decide +kernel
theorem i_256_19 : t_ins 256 19 = some (.astore 5) := by decide +kernel
theorem i_256_21 : t_ins 256 21 = some (.iconst 2) := by decide +kernel
theorem i_256_22 : t_ins 256 22 = some (.ireturn) := by decide +kernel
theorem i_256_23 : t_ins 256 23 = some (.iconst 0) := by decide +kernel
theorem i_256_24 : t_ins 256 24 = some (.ireturn) := by decide +kernel
theorem q_256_0 : XX d 256 0 [v0, v1, v2, v3, some (.ref a), v5] st A Q ↔ XX d 256 2 [v0, v1, v2, v3, some (.ref a), v5] (.ref a :: st) A Q := c_lcl i_256_0 rfl rfl
theorem q_256_2 : XX d 256 2 [v0, v1, v2, v3, v4, v5] st A Q ↔ XX d 256 3 [v0, v1, v2, v3, v4, v5] (.int (w 0) :: st) A Q := c_stk i_256_2 rfl
theorem q_256_3 : XX d 256 3 [some (.ref a), v1, v2, v3, v4, v5] st A Q ↔ XX d 256 4 [some (.ref a), v1, v2, v3, v4, v5] (.ref a :: st) A Q := c_lcl i_256_3 rfl rfl
theorem q_256_4 : XX d 256 4 [v0, some (.int x), v2, v3, v4, v5] st A Q ↔ XX d 256 5 [v0, some (.int x), v2, v3, v4, v5] (.int x :: st) A Q := c_lcl i_256_4 rfl rfl
theorem q_256_5 : XX d 256 5 [v0, v1, some (.int x), v3, v4, v5] st A Q ↔ XX d 256 6 [v0, v1, some (.int x), v3, v4, v5] (.int x :: st) A Q := c_lcl i_256_5 rfl rfl
theorem q_256_6 : XX d 256 6 [v0, v1, v2, some (.int x), v4, v5] st A Q ↔ XX d 256 7 [v0, v1, v2, some (.int x), v4, v5] (.int x :: st) A Q := c_lcl i_256_6 rfl rfl
theorem q_256_7 : XX (d + 1) 256 7 [v0, v1, v2, v3, v4, v5] [.int x3, .int x2, .int x1, .ref a0, .int x4, .ref a5] (mk S I L R G) Q ↔ S a0 = some (.inr 11) ∧ XC d 126 [.ref a0, .int x1, .int x2, .int x3] (mk S I L R G) (XK (d + 1) 256 7 [v0, v1, v2, v3, v4, v5] [.int x4, .ref a5] Q) := c_callV i_256_7 rfl rfl rfl rfl (Nat.le_of_ble_eq_true rfl) (Nat.le_of_ble_eq_true rfl) rfl
theorem q_256_10 : XX d 256 10 [v0, v1, v2, v3, v4, v5] (.int x :: st) A Q ↔ XX d 256 11 [v0, v1, v2, v3, v4, v5] (.long x.toInt64 :: st) A Q := c_stk i_256_10 rfl
theorem q_256_11 : XX d 256 11 [v0, v1, v2, v3, v4, v5] (.long ly :: .int x :: .ref a :: st) (mk S I L R G) Q ↔ inA (S a) ok_l x ∧ XX d 256 12 [v0, v1, v2, v3, v4, v5] st (mk S I (wr L a (up (L a) (ix x) ly)) R G) Q := r_las i_256_11
theorem q_256_12 : XX d 256 12 [v0, v1, v2, v3, v4, v5] st A Q ↔ XX d 256 23 [v0, v1, v2, v3, v4, v5] st A Q := c_go i_256_12 rfl rfl
theorem q_256_15 : XX d 256 15 [v0, v1, v2, v3, some (.ref b), v5] (.ref a :: st) A Q ↔ XX d 256 17 [v0, v1, v2, v3, some (.ref b), some (.ref a)] st A Q := c_lcl i_256_15 rfl rfl
theorem q_256_17 : XX d 256 17 [v0, v1, v2, v3, v4, v5] st A Q ↔ XX d 256 18 [v0, v1, v2, v3, v4, v5] (.int (w 1) :: st) A Q := c_stk i_256_17 rfl
theorem q_256_18 : XX d 256 18 [v0, v1, v2, v3, v4, v5] [.int x] A Q ↔ Q (.inl (some (.int x))) A := e_retI i_256_18 rfl
theorem q_256_19 : XX d 256 19 [v0, v1, v2, v3, some (.ref b), v5] (.ref a :: st) A Q ↔ XX d 256 21 [v0, v1, v2, v3, some (.ref b), some (.ref a)] st A Q := c_lcl i_256_19 rfl rfl
theorem q_256_21 : XX d 256 21 [v0, v1, v2, v3, v4, v5] st A Q ↔ XX d 256 22 [v0, v1, v2, v3, v4, v5] (.int (w 2) :: st) A Q := c_stk i_256_21 rfl
theorem q_256_22 : XX d 256 22 [v0, v1, v2, v3, v4, v5] [.int x] A Q ↔ Q (.inl (some (.int x))) A := e_retI i_256_22 rfl
theorem q_256_23 : XX d 256 23 [v0, v1, v2, v3, v4, v5] st A Q ↔ XX d 256 24 [v0, v1, v2, v3, v4, v5] (.int (w 0) :: st) A Q := c_stk i_256_23 rfl
theorem q_256_24 : XX d 256 24 [v0, v1, v2, v3, v4, v5] [.int x] A Q ↔ Q (.inl (some (.int x))) A := e_retI i_256_24 rfl
theorem q_256_e : XC d 256 [.ref a0, .int x1, .int x2, .int x3, .ref a4] A Q ↔ XX d 256 0 [some (.ref a0), some (.int x1), some (.int x2), some (.int x3), some (.ref a4), none] [] A Q := Iff.rfl
theorem i_257_0 : t_ins 257 0 = some (.aload 4) := by decide +kernel
theorem i_257_2 : t_ins 257 2 = some (.iconst 0) := by decide +kernel
theorem i_257_3 : t_ins 257 3 = some (.aload_n 0) := by decide +kernel
theorem i_257_4 : t_ins 257 4 = some (.iload_n 1) := by decide +kernel
theorem i_257_5 : t_ins 257 5 = some (.iload_n 2) := by decide +kernel
theorem i_257_6 : t_ins 257 6 = some (.iload_n 3) := by decide +kernel
theorem i_257_7 : t_ins 257 7 = some (.invokevirtual 68) := by decide +kernel
theorem i_257_10 : t_ins 257 10 = some (.i2l) := by decide +kernel
theorem i_257_11 : t_ins 257 11 = some (.lastore) := by decide +kernel
theorem i_257_12 : t_ins 257 12 = some (.goto 11) := by decide +kernel
theorem i_257_15 : t_ins 257 15 = some (.astore 5) := by decide +kernel
theorem i_257_17 : t_ins 257 17 = some (.iconst 1) := by decide +kernel
theorem i_257_18 : t_ins 257 18 = some (.ireturn) := by decide +kernel
theorem i_257_19 : t_ins 257 19 = some (.astore 5) := by decide +kernel
theorem i_257_21 : t_ins 257 21 = some (.iconst 2) := by decide +kernel
theorem i_257_22 : t_ins 257 22 = some (.ireturn) := by decide +kernel
theorem i_257_23 : t_ins 257 23 = some (.iconst 0) := by decide +kernel
theorem i_257_24 : t_ins 257 24 = some (.ireturn) := by decide +kernel
theorem q_257_0 : XX d 257 0 [v0, v1, v2, v3, some (.ref a), v5] st A Q ↔ XX d 257 2 [v0, v1, v2, v3, some (.ref a), v5] (.ref a :: st) A Q := c_lcl i_257_0 rfl rfl
theorem q_257_2 : XX d 257 2 [v0, v1, v2, v3, v4, v5] st A Q ↔ XX d 257 3 [v0, v1, v2, v3, v4, v5] (.int (w 0) :: st) A Q := c_stk i_257_2 rfl
theorem q_257_3 : XX d 257 3 [some (.ref a), v1, v2, v3, v4, v5] st A Q ↔ XX d 257 4 [some (.ref a), v1, v2, v3, v4, v5] (.ref a :: st) A Q := c_lcl i_257_3 rfl rfl
theorem q_257_4 : XX d 257 4 [v0, some (.int x), v2, v3, v4, v5] st A Q ↔ XX d 257 5 [v0, some (.int x), v2, v3, v4, v5] (.int x :: st) A Q := c_lcl i_257_4 rfl rfl
theorem q_257_5 : XX d 257 5 [v0, v1, some (.int x), v3, v4, v5] st A Q ↔ XX d 257 6 [v0, v1, some (.int x), v3, v4, v5] (.int x :: st) A Q := c_lcl i_257_5 rfl rfl
theorem q_257_6 : XX d 257 6 [v0, v1, v2, some (.int x), v4, v5] st A Q ↔ XX d 257 7 [v0, v1, v2, some (.int x), v4, v5] (.int x :: st) A Q := c_lcl i_257_6 rfl rfl
theorem q_257_7 : XX (d + 1) 257 7 [v0, v1, v2, v3, v4, v5] [.int x3, .int x2, .int x1, .ref a0, .int x4, .ref a5] (mk S I L R G) Q ↔ S a0 = some (.inr 11) ∧ XC d 127 [.ref a0, .int x1, .int x2, .int x3] (mk S I L R G) (XK (d + 1) 257 7 [v0, v1, v2, v3, v4, v5] [.int x4, .ref a5] Q) := c_callV i_257_7 rfl rfl rfl rfl (Nat.le_of_ble_eq_true rfl) (Nat.le_of_ble_eq_true rfl) rfl
theorem q_257_10 : XX d 257 10 [v0, v1, v2, v3, v4, v5] (.int x :: st) A Q ↔ XX d 257 11 [v0, v1, v2, v3, v4, v5] (.long x.toInt64 :: st) A Q := c_stk i_257_10 rfl
theorem q_257_11 : XX d 257 11 [v0, v1, v2, v3, v4, v5] (.long ly :: .int x :: .ref a :: st) (mk S I L R G) Q ↔ inA (S a) ok_l x ∧ XX d 257 12 [v0, v1, v2, v3, v4, v5] st (mk S I (wr L a (up (L a) (ix x) ly)) R G) Q := r_las i_257_11
theorem q_257_12 : XX d 257 12 [v0, v1, v2, v3, v4, v5] st A Q ↔ XX d 257 23 [v0, v1, v2, v3, v4, v5] st A Q := c_go i_257_12 rfl rfl
theorem q_257_15 : XX d 257 15 [v0, v1, v2, v3, some (.ref b), v5] (.ref a :: st) A Q ↔ XX d 257 17 [v0, v1, v2, v3, some (.ref b), some (.ref a)] st A Q := c_lcl i_257_15 rfl rfl
theorem q_257_17 : XX d 257 17 [v0, v1, v2, v3, v4, v5] st A Q ↔ XX d 257 18 [v0, v1, v2, v3, v4, v5] (.int (w 1) :: st) A Q := c_stk i_257_17 rfl
theorem q_257_18 : XX d 257 18 [v0, v1, v2, v3, v4, v5] [.int x] A Q ↔ Q (.inl (some (.int x))) A := e_retI i_257_18 rfl
theorem q_257_19 : XX d 257 19 [v0, v1, v2, v3, some (.ref b), v5] (.ref a :: st) A Q ↔ XX d 257 21 [v0, v1, v2, v3, some (.ref b), some (.ref a)] st A Q := c_lcl i_257_19 rfl rfl
theorem q_257_21 : XX d 257 21 [v0, v1, v2, v3, v4, v5] st A Q ↔ XX d 257 22 [v0, v1, v2, v3, v4, v5] (.int (w 2) :: st) A Q := c_stk i_257_21 rfl
theorem q_257_22 : XX d 257 22 [v0, v1, v2, v3, v4, v5] [.int x] A Q ↔ Q (.inl (some (.int x))) A := e_retI i_257_22 rfl
theorem q_257_23 : XX d 257 23 [v0, v1, v2, v3, v4, v5] st A Q ↔ XX d 257 24 [v0, v1, v2, v3, v4, v5] (.int (w 0) :: st) A Q := c_stk i_257_23 rfl
theorem q_257_24 : XX d 257 24 [v0, v1, v2, v3, v4, v5] [.int x] A Q ↔ Q (.inl (some (.int x))) A := e_retI i_257_24 rfl
theorem q_257_e : XC d 257 [.ref a0, .int x1, .int x2, .int x3, .ref a4] A Q ↔ XX d 257 0 [some (.ref a0), some (.int x1), some (.int x2), some (.int x3), some (.ref a4), none] [] A Q := Iff.rfl
theorem i_258_0 : t_ins 258 0 = some (.aload 5) := by decide +kernel
theorem i_258_2 : t_ins 258 2 = some (.iconst 0) := by decide +kernel
theorem i_258_3 : t_ins 258 3 = some (.aload_n 0) := by decide +kernel
theorem i_258_4 : t_ins 258 4 = some (.iload_n 1) := by decide +kernel
theorem i_258_5 : t_ins 258 5 = some (.iload_n 2) := by decide +kernel
theorem i_258_6 : t_ins 258 6 = some (.iload_n 3) := by decide +kernel
theorem i_258_7 : t_ins 258 7 = some (.iload 4) := by decide +kernel
theorem i_258_9 : t_ins 258 9 = some (.invokevirtual 71) := by decide +kernel
theorem i_258_12 : t_ins 258 12 = some (.i2l) := by decide +kernel
theorem i_258_13 : t_ins 258 13 = some (.lastore) := by decide +kernel
theorem i_258_14 : t_ins 258 14 = some (.goto 11) := by decide +kernel
theorem i_258_17 : t_ins 258 17 = some (.astore 6) := by decide +kernel
theorem i_258_19 : t_ins 258 19 = some (.iconst 1) := by decide +kernel
theorem i_258_20 : t_ins 258 20 = some (.ireturn) := by decide +kernel
theorem i_258_21 : t_ins 258 21 = some (.astore 6) := by decide +kernel
theorem i_258_23 : t_ins 258 23 = some (.iconst 2) := by decide +kernel
theorem i_258_24 : t_ins 258 24 = some (.ireturn) := by decide +kernel
theorem i_258_25 : t_ins 258 25 = some (.iconst 0) := by decide +kernel
theorem i_258_26 : t_ins 258 26 = some (.ireturn) := by decide +kernel
theorem q_258_0 : XX d 258 0 [v0, v1, v2, v3, v4, some (.ref a), v6] st A Q ↔ XX d 258 2 [v0, v1, v2, v3, v4, some (.ref a), v6] (.ref a :: st) A Q := c_lcl i_258_0 rfl rfl
theorem q_258_2 : XX d 258 2 [v0, v1, v2, v3, v4, v5, v6] st A Q ↔ XX d 258 3 [v0, v1, v2, v3, v4, v5, v6] (.int (w 0) :: st) A Q := c_stk i_258_2 rfl
theorem q_258_3 : XX d 258 3 [some (.ref a), v1, v2, v3, v4, v5, v6] st A Q ↔ XX d 258 4 [some (.ref a), v1, v2, v3, v4, v5, v6] (.ref a :: st) A Q := c_lcl i_258_3 rfl rfl
theorem q_258_4 : XX d 258 4 [v0, some (.int x), v2, v3, v4, v5, v6] st A Q ↔ XX d 258 5 [v0, some (.int x), v2, v3, v4, v5, v6] (.int x :: st) A Q := c_lcl i_258_4 rfl rfl
theorem q_258_5 : XX d 258 5 [v0, v1, some (.int x), v3, v4, v5, v6] st A Q ↔ XX d 258 6 [v0, v1, some (.int x), v3, v4, v5, v6] (.int x :: st) A Q := c_lcl i_258_5 rfl rfl
theorem q_258_6 : XX d 258 6 [v0, v1, v2, some (.int x), v4, v5, v6] st A Q ↔ XX d 258 7 [v0, v1, v2, some (.int x), v4, v5, v6] (.int x :: st) A Q := c_lcl i_258_6 rfl rfl
theorem q_258_7 : XX d 258 7 [v0, v1, v2, v3, some (.int x), v5, v6] st A Q ↔ XX d 258 9 [v0, v1, v2, v3, some (.int x), v5, v6] (.int x :: st) A Q := c_lcl i_258_7 rfl rfl
theorem q_258_9 : XX (d + 1) 258 9 [v0, v1, v2, v3, v4, v5, v6] [.int x4, .int x3, .int x2, .int x1, .ref a0, .int x5, .ref a6] (mk S I L R G) Q ↔ S a0 = some (.inr 11) ∧ XC d 128 [.ref a0, .int x1, .int x2, .int x3, .int x4] (mk S I L R G) (XK (d + 1) 258 9 [v0, v1, v2, v3, v4, v5, v6] [.int x5, .ref a6] Q) := c_callV i_258_9 rfl rfl rfl rfl (Nat.le_of_ble_eq_true rfl) (Nat.le_of_ble_eq_true rfl) rfl
theorem q_258_12 : XX d 258 12 [v0, v1, v2, v3, v4, v5, v6] (.int x :: st) A Q ↔ XX d 258 13 [v0, v1, v2, v3, v4, v5, v6] (.long x.toInt64 :: st) A Q := c_stk i_258_12 rfl
theorem q_258_13 : XX d 258 13 [v0, v1, v2, v3, v4, v5, v6] (.long ly :: .int x :: .ref a :: st) (mk S I L R G) Q ↔ inA (S a) ok_l x ∧ XX d 258 14 [v0, v1, v2, v3, v4, v5, v6] st (mk S I (wr L a (up (L a) (ix x) ly)) R G) Q := r_las i_258_13
theorem q_258_14 : XX d 258 14 [v0, v1, v2, v3, v4, v5, v6] st A Q ↔ XX d 258 25 [v0, v1, v2, v3, v4, v5, v6] st A Q := c_go i_258_14 rfl rfl
theorem q_258_17 : XX d 258 17 [v0, v1, v2, v3, v4, some (.ref b), v6] (.ref a :: st) A Q ↔ XX d 258 19 [v0, v1, v2, v3, v4, some (.ref b), some (.ref a)] st A Q := c_lcl i_258_17 rfl rfl
theorem q_258_19 : XX d 258 19 [v0, v1, v2, v3, v4, v5, v6] st A Q ↔ XX d 258 20 [v0, v1, v2, v3, v4, v5, v6] (.int (w 1) :: st) A Q := c_stk i_258_19 rfl
theorem q_258_20 : XX d 258 20 [v0, v1, v2, v3, v4, v5, v6] [.int x] A Q ↔ Q (.inl (some (.int x))) A := e_retI i_258_20 rfl
theorem q_258_21 : XX d 258 21 [v0, v1, v2, v3, v4, some (.ref b), v6] (.ref a :: st) A Q ↔ XX d 258 23 [v0, v1, v2, v3, v4, some (.ref b), some (.ref a)] st A Q := c_lcl i_258_21 rfl rfl
theorem q_258_23 : XX d 258 23 [v0, v1, v2, v3, v4, v5, v6] st A Q ↔ XX d 258 24 [v0, v1, v2, v3, v4, v5, v6] (.int (w 2) :: st) A Q := c_stk i_258_23 rfl
theorem q_258_24 : XX d 258 24 [v0, v1, v2, v3, v4, v5, v6] [.int x] A Q ↔ Q (.inl (some (.int x))) A := e_retI i_258_24 rfl
theorem q_258_25 : XX d 258 25 [v0, v1, v2, v3, v4, v5, v6] st A Q ↔ XX d 258 26 [v0, v1, v2, v3, v4, v5, v6] (.int (w 0) :: st) A Q := c_stk i_258_25 rfl
theorem q_258_26 : XX d 258 26 [v0, v1, v2, v3, v4, v5, v6] [.int x] A Q ↔ Q (.inl (some (.int x))) A := e_retI i_258_26 rfl
theorem q_258_e : XC d 258 [.ref a0, .int x1, .int x2, .int x3, .int x4, .ref a5] A Q ↔ XX d 258 0 [some (.ref a0), some (.int x1), some (.int x2), some (.int x3), some (.int x4), some (.ref a5), none] [] A Q := Iff.rfl
theorem i_259_0 : t_ins 259 0 = some (.aload_n 3) := by decide +kernel
theorem i_259_1 : t_ins 259 1 = some (.iconst 0) := by decide +kernel
theorem i_259_2 : t_ins 259 2 = some (.aload_n 0) := by decide +kernel
theorem i_259_3 : t_ins 259 3 = some (.iload_n 1) := by decide +kernel
theorem i_259_4 : t_ins 259 4 = some (.iload_n 2) := by decide +kernel
theorem i_259_5 : t_ins 259 5 = some (.invokevirtual 74) := by decide +kernel
theorem i_259_8 : t_ins 259 8 = some (.i2l) := by decide +kernel
theorem i_259_9 : t_ins 259 9 = some (.lastore) := by decide +kernel
theorem i_259_10 : t_ins 259 10 = some (.goto 11) := by decide +kernel
theorem i_259_13 : t_ins 259 13 = some (.astore 4) := by decide +kernel
theorem i_259_15 : t_ins 259 15 = some (.iconst 1) := by decide +kernel
theorem i_259_16 : t_ins 259 16 = some (.ireturn) := by decide +kernel
theorem i_259_17 : t_ins 259 17 = some (.astore 4) := by decide +kernel
theorem i_259_19 : t_ins 259 19 = some (.iconst 2) := by decide +kernel
theorem i_259_20 : t_ins 259 20 = some (.ireturn) := by decide +kernel
theorem i_259_21 : t_ins 259 21 = some (.iconst 0) := by decide +kernel
theorem i_259_22 : t_ins 259 22 = some (.ireturn) := by decide +kernel
theorem q_259_0 : XX d 259 0 [v0, v1, v2, some (.ref a), v4] st A Q ↔ XX d 259 1 [v0, v1, v2, some (.ref a), v4] (.ref a :: st) A Q := c_lcl i_259_0 rfl rfl
theorem q_259_1 : XX d 259 1 [v0, v1, v2, v3, v4] st A Q ↔ XX d 259 2 [v0, v1, v2, v3, v4] (.int (w 0) :: st) A Q := c_stk i_259_1 rfl
theorem q_259_2 : XX d 259 2 [some (.ref a), v1, v2, v3, v4] st A Q ↔ XX d 259 3 [some (.ref a), v1, v2, v3, v4] (.ref a :: st) A Q := c_lcl i_259_2 rfl rfl
theorem q_259_3 : XX d 259 3 [v0, some (.int x), v2, v3, v4] st A Q ↔ XX d 259 4 [v0, some (.int x), v2, v3, v4] (.int x :: st) A Q := c_lcl i_259_3 rfl rfl
theorem q_259_4 : XX d 259 4 [v0, v1, some (.int x), v3, v4] st A Q ↔ XX d 259 5 [v0, v1, some (.int x), v3, v4] (.int x :: st) A Q := c_lcl i_259_4 rfl rfl
theorem q_259_5 : XX (d + 1) 259 5 [v0, v1, v2, v3, v4] [.int x2, .int x1, .ref a0, .int x3, .ref a4] (mk S I L R G) Q ↔ S a0 = some (.inr 11) ∧ XC d 129 [.ref a0, .int x1, .int x2] (mk S I L R G) (XK (d + 1) 259 5 [v0, v1, v2, v3, v4] [.int x3, .ref a4] Q) := c_callV i_259_5 rfl rfl rfl rfl (Nat.le_of_ble_eq_true rfl) (Nat.le_of_ble_eq_true rfl) rfl
theorem q_259_8 : XX d 259 8 [v0, v1, v2, v3, v4] (.int x :: st) A Q ↔ XX d 259 9 [v0, v1, v2, v3, v4] (.long x.toInt64 :: st) A Q := c_stk i_259_8 rfl
theorem q_259_9 : XX d 259 9 [v0, v1, v2, v3, v4] (.long ly :: .int x :: .ref a :: st) (mk S I L R G) Q ↔ inA (S a) ok_l x ∧ XX d 259 10 [v0, v1, v2, v3, v4] st (mk S I (wr L a (up (L a) (ix x) ly)) R G) Q := r_las i_259_9
theorem q_259_10 : XX d 259 10 [v0, v1, v2, v3, v4] st A Q ↔ XX d 259 21 [v0, v1, v2, v3, v4] st A Q := c_go i_259_10 rfl rfl
theorem q_259_13 : XX d 259 13 [v0, v1, v2, some (.ref b), v4] (.ref a :: st) A Q ↔ XX d 259 15 [v0, v1, v2, some (.ref b), some (.ref a)] st A Q := c_lcl i_259_13 rfl rfl
theorem q_259_15 : XX d 259 15 [v0, v1, v2, v3, v4] st A Q ↔ XX d 259 16 [v0, v1, v2, v3, v4] (.int (w 1) :: st) A Q := c_stk i_259_15 rfl
theorem q_259_16 : XX d 259 16 [v0, v1, v2, v3, v4] [.int x] A Q ↔ Q (.inl (some (.int x))) A := e_retI i_259_16 rfl
theorem q_259_17 : XX d 259 17 [v0, v1, v2, some (.ref b), v4] (.ref a :: st) A Q ↔ XX d 259 19 [v0, v1, v2, some (.ref b), some (.ref a)] st A Q := c_lcl i_259_17 rfl rfl
theorem q_259_19 : XX d 259 19 [v0, v1, v2, v3, v4] st A Q ↔ XX d 259 20 [v0, v1, v2, v3, v4] (.int (w 2) :: st) A Q := c_stk i_259_19 rfl
theorem q_259_20 : XX d 259 20 [v0, v1, v2, v3, v4] [.int x] A Q ↔ Q (.inl (some (.int x))) A := e_retI i_259_20 rfl
theorem q_259_21 : XX d 259 21 [v0, v1, v2, v3, v4] st A Q ↔ XX d 259 22 [v0, v1, v2, v3, v4] (.int (w 0) :: st) A Q := c_stk i_259_21 rfl
theorem q_259_22 : XX d 259 22 [v0, v1, v2, v3, v4] [.int x] A Q ↔ Q (.inl (some (.int x))) A := e_retI i_259_22 rfl
theorem q_259_e : XC d 259 [.ref a0, .int x1, .int x2, .ref a3] A Q ↔ XX d 259 0 [some (.ref a0), some (.int x1), some (.int x2), some (.ref a3), none] [] A Q := Iff.rfl
theorem i_260_0 : t_ins 260 0 = some (.aload_n 3) := by decide +kernel
theorem i_260_1 : t_ins 260 1 = some (.iconst 0) := by decide +kernel
theorem i_260_2 : t_ins 260 2 = some (.aload_n 0) := by decide +kernel
theorem i_260_3 : t_ins 260 3 = some (.iload_n 1) := by decide +kernel
theorem i_260_4 : t_ins 260 4 = some (.iload_n 2) := by decide +kernel
theorem i_260_5 : t_ins 260 5 = some (.invokevirtual 77) := by decide +kernel
theorem i_260_8 : t_ins 260 8 = some (.i2l) := by decide +kernel
theorem i_260_9 : t_ins 260 9 = some (.lastore) := by decide +kernel
theorem i_260_10 : t_ins 260 10 = some (.goto 7) := by decide +kernel
theorem i_260_13 : t_ins 260 13 = some (.astore 4) := by decide +kernel
theorem i_260_15 : t_ins 260 15 = some (.iconst 1) := by decide +kernel
theorem i_260_16 : t_ins 260 16 = some (.ireturn) := by decide +kernel
theorem i_260_17 : t_ins 260 17 = some (.iconst 0) := by decide +kernel
theorem i_260_18 : t_ins 260 18 = some (.ireturn) := by decide +kernel
theorem q_260_0 : XX d 260 0 [v0, v1, v2, some (.ref a), v4] st A Q ↔ XX d 260 1 [v0, v1, v2, some (.ref a), v4] (.ref a :: st) A Q := c_lcl i_260_0 rfl rfl
theorem q_260_1 : XX d 260 1 [v0, v1, v2, v3, v4] st A Q ↔ XX d 260 2 [v0, v1, v2, v3, v4] (.int (w 0) :: st) A Q := c_stk i_260_1 rfl
theorem q_260_2 : XX d 260 2 [some (.ref a), v1, v2, v3, v4] st A Q ↔ XX d 260 3 [some (.ref a), v1, v2, v3, v4] (.ref a :: st) A Q := c_lcl i_260_2 rfl rfl
theorem q_260_3 : XX d 260 3 [v0, some (.int x), v2, v3, v4] st A Q ↔ XX d 260 4 [v0, some (.int x), v2, v3, v4] (.int x :: st) A Q := c_lcl i_260_3 rfl rfl
theorem q_260_4 : XX d 260 4 [v0, v1, some (.int x), v3, v4] st A Q ↔ XX d 260 5 [v0, v1, some (.int x), v3, v4] (.int x :: st) A Q := c_lcl i_260_4 rfl rfl
theorem q_260_5 : XX (d + 1) 260 5 [v0, v1, v2, v3, v4] [.int x2, .int x1, .ref a0, .int x3, .ref a4] (mk S I L R G) Q ↔ S a0 = some (.inr 11) ∧ XC d 130 [.ref a0, .int x1, .int x2] (mk S I L R G) (XK (d + 1) 260 5 [v0, v1, v2, v3, v4] [.int x3, .ref a4] Q) := c_callV i_260_5 rfl rfl rfl rfl (Nat.le_of_ble_eq_true rfl) (Nat.le_of_ble_eq_true rfl) rfl
theorem q_260_8 : XX d 260 8 [v0, v1, v2, v3, v4] (.int x :: st) A Q ↔ XX d 260 9 [v0, v1, v2, v3, v4] (.long x.toInt64 :: st) A Q := c_stk i_260_8 rfl
theorem q_260_9 : XX d 260 9 [v0, v1, v2, v3, v4] (.long ly :: .int x :: .ref a :: st) (mk S I L R G) Q ↔ inA (S a) ok_l x ∧ XX d 260 10 [v0, v1, v2, v3, v4] st (mk S I (wr L a (up (L a) (ix x) ly)) R G) Q := r_las i_260_9
theorem q_260_10 : XX d 260 10 [v0, v1, v2, v3, v4] st A Q ↔ XX d 260 17 [v0, v1, v2, v3, v4] st A Q := c_go i_260_10 rfl rfl
theorem q_260_13 : XX d 260 13 [v0, v1, v2, some (.ref b), v4] (.ref a :: st) A Q ↔ XX d 260 15 [v0, v1, v2, some (.ref b), some (.ref a)] st A Q := c_lcl i_260_13 rfl rfl
theorem q_260_15 : XX d 260 15 [v0, v1, v2, v3, v4] st A Q ↔ XX d 260 16 [v0, v1, v2, v3, v4] (.int (w 1) :: st) A Q := c_stk i_260_15 rfl
theorem q_260_16 : XX d 260 16 [v0, v1, v2, v3, v4] [.int x] A Q ↔ Q (.inl (some (.int x))) A := e_retI i_260_16 rfl
theorem q_260_17 : XX d 260 17 [v0, v1, v2, v3, v4] st A Q ↔ XX d 260 18 [v0, v1, v2, v3, v4] (.int (w 0) :: st) A Q := c_stk i_260_17 rfl
theorem q_260_18 : XX d 260 18 [v0, v1, v2, v3, v4] [.int x] A Q ↔ Q (.inl (some (.int x))) A := e_retI i_260_18 rfl
theorem q_260_e : XC d 260 [.ref a0, .int x1, .int x2, .ref a3] A Q ↔ XX d 260 0 [some (.ref a0), some (.int x1), some (.int x2), some (.ref a3), none] [] A Q := Iff.rfl
theorem i_261_0 : t_ins 261 0 = some (.aload_n 3) := by decide +kernel
theorem i_261_1 : t_ins 261 1 = some (.iconst 0) := by decide +kernel
theorem i_261_2 : t_ins 261 2 = some (.aload_n 0) := by decide +kernel
theorem i_261_3 : t_ins 261 3 = some (.iload_n 1) := by decide +kernel
theorem i_261_4 : t_ins 261 4 = some (.iload_n 2) := by decide +kernel
theorem i_261_5 : t_ins 261 5 = some (.invokevirtual 80) := by decide +kernel
theorem i_261_8 : t_ins 261 8 = some (.i2l) := by decide +kernel
theorem i_261_9 : t_ins 261 9 = some (.lastore) := by decide +kernel
theorem i_261_10 : t_ins 261 10 = some (.goto 7) := by decide +kernel
theorem i_261_13 : t_ins 261 13 = some (.astore 4) := by decide +kernel
theorem i_261_15 : t_ins 261 15 = some (.iconst 1) := by decide +kernel
theorem i_261_16 : t_ins 261 16 = some (.ireturn) := by decide +kernel
theorem i_261_17 : t_ins 261 17 = some (.iconst 0) := by decide +kernel
theorem i_261_18 : t_ins 261 18 = some (.ireturn) := by decide +kernel
theorem q_261_0 : XX d 261 0 [v0, v1, v2, some (.ref a), v4] st A Q ↔ XX d 261 1 [v0, v1, v2, some (.ref a), v4] (.ref a :: st) A Q := c_lcl i_261_0 rfl rfl
theorem q_261_1 : XX d 261 1 [v0, v1, v2, v3, v4] st A Q ↔ XX d 261 2 [v0, v1, v2, v3, v4] (.int (w 0) :: st) A Q := c_stk i_261_1 rfl
theorem q_261_2 : XX d 261 2 [some (.ref a), v1, v2, v3, v4] st A Q ↔ XX d 261 3 [some (.ref a), v1, v2, v3, v4] (.ref a :: st) A Q := c_lcl i_261_2 rfl rfl
theorem q_261_3 : XX d 261 3 [v0, some (.int x), v2, v3, v4] st A Q ↔ XX d 261 4 [v0, some (.int x), v2, v3, v4] (.int x :: st) A Q := c_lcl i_261_3 rfl rfl
theorem q_261_4 : XX d 261 4 [v0, v1, some (.int x), v3, v4] st A Q ↔ XX d 261 5 [v0, v1, some (.int x), v3, v4] (.int x :: st) A Q := c_lcl i_261_4 rfl rfl
theorem q_261_5 : XX (d + 1) 261 5 [v0, v1, v2, v3, v4] [.int x2, .int x1, .ref a0, .int x3, .ref a4] (mk S I L R G) Q ↔ S a0 = some (.inr 11) ∧ XC d 132 [.ref a0, .int x1, .int x2] (mk S I L R G) (XK (d + 1) 261 5 [v0, v1, v2, v3, v4] [.int x3, .ref a4] Q) := c_callV i_261_5 rfl rfl rfl rfl (Nat.le_of_ble_eq_true rfl) (Nat.le_of_ble_eq_true rfl) rfl
theorem q_261_8 : XX d 261 8 [v0, v1, v2, v3, v4] (.int x :: st) A Q ↔ XX d 261 9 [v0, v1, v2, v3, v4] (.long x.toInt64 :: st) A Q := c_stk i_261_8 rfl
theorem q_261_9 : XX d 261 9 [v0, v1, v2, v3, v4] (.long ly :: .int x :: .ref a :: st) (mk S I L R G) Q ↔ inA (S a) ok_l x ∧ XX d 261 10 [v0, v1, v2, v3, v4] st (mk S I (wr L a (up (L a) (ix x) ly)) R G) Q := r_las i_261_9
theorem q_261_10 : XX d 261 10 [v0, v1, v2, v3, v4] st A Q ↔ XX d 261 17 [v0, v1, v2, v3, v4] st A Q := c_go i_261_10 rfl rfl
theorem q_261_13 : XX d 261 13 [v0, v1, v2, some (.ref b), v4] (.ref a :: st) A Q ↔ XX d 261 15 [v0, v1, v2, some (.ref b), some (.ref a)] st A Q := c_lcl i_261_13 rfl rfl
theorem q_261_15 : XX d 261 15 [v0, v1, v2, v3, v4] st A Q ↔ XX d 261 16 [v0, v1, v2, v3, v4] (.int (w 1) :: st) A Q := c_stk i_261_15 rfl
theorem q_261_16 : XX d 261 16 [v0, v1, v2, v3, v4] [.int x] A Q ↔ Q (.inl (some (.int x))) A := e_retI i_261_16 rfl
theorem q_261_17 : XX d 261 17 [v0, v1, v2, v3, v4] st A Q ↔ XX d 261 18 [v0, v1, v2, v3, v4] (.int (w 0) :: st) A Q := c_stk i_261_17 rfl
theorem q_261_18 : XX d 261 18 [v0, v1, v2, v3, v4] [.int x] A Q ↔ Q (.inl (some (.int x))) A := e_retI i_261_18 rfl
theorem q_261_e : XC d 261 [.ref a0, .int x1, .int x2, .ref a3] A Q ↔ XX d 261 0 [some (.ref a0), some (.int x1), some (.int x2), some (.ref a3), none] [] A Q := Iff.rfl
theorem i_262_0 : t_ins 262 0 = some (.aload_n 3) := by decide +kernel
theorem i_262_1 : t_ins 262 1 = some (.iconst 0) := by decide +kernel
theorem i_262_2 : t_ins 262 2 = some (.aload_n 0) := by decide +kernel
theorem i_262_3 : t_ins 262 3 = some (.iload_n 1) := by decide +kernel
theorem i_262_4 : t_ins 262 4 = some (.iload_n 2) := by decide +kernel
theorem i_262_5 : t_ins 262 5 = some (.invokevirtual 83) := by decide +kernel
theorem i_262_8 : t_ins 262 8 = some (.i2l) := by decide +kernel
theorem i_262_9 : t_ins 262 9 = some (.lastore) := by decide +kernel
theorem i_262_10 : t_ins 262 10 = some (.goto 11) := by decide +kernel
theorem i_262_13 : t_ins 262 13 = some (.astore 4) := by decide +kernel
theorem i_262_15 : t_ins 262 15 = some (.iconst 1) := by decide +kernel
theorem i_262_16 : t_ins 262 16 = some (.ireturn) := by decide +kernel
theorem i_262_17 : t_ins 262 17 = some (.astore 4) := by decide +kernel
theorem i_262_19 : t_ins 262 19 = some (.iconst 2) := by decide +kernel
theorem i_262_20 : t_ins 262 20 = some (.ireturn) := by decide +kernel
theorem i_262_21 : t_ins 262 21 = some (.iconst 0) := by decide +kernel
theorem i_262_22 : t_ins 262 22 = some (.ireturn) := by decide +kernel
theorem q_262_0 : XX d 262 0 [v0, v1, v2, some (.ref a), v4] st A Q ↔ XX d 262 1 [v0, v1, v2, some (.ref a), v4] (.ref a :: st) A Q := c_lcl i_262_0 rfl rfl
theorem q_262_1 : XX d 262 1 [v0, v1, v2, v3, v4] st A Q ↔ XX d 262 2 [v0, v1, v2, v3, v4] (.int (w 0) :: st) A Q := c_stk i_262_1 rfl
theorem q_262_2 : XX d 262 2 [some (.ref a), v1, v2, v3, v4] st A Q ↔ XX d 262 3 [some (.ref a), v1, v2, v3, v4] (.ref a :: st) A Q := c_lcl i_262_2 rfl rfl
theorem q_262_3 : XX d 262 3 [v0, some (.int x), v2, v3, v4] st A Q ↔ XX d 262 4 [v0, some (.int x), v2, v3, v4] (.int x :: st) A Q := c_lcl i_262_3 rfl rfl
theorem q_262_4 : XX d 262 4 [v0, v1, some (.int x), v3, v4] st A Q ↔ XX d 262 5 [v0, v1, some (.int x), v3, v4] (.int x :: st) A Q := c_lcl i_262_4 rfl rfl
theorem q_262_5 : XX (d + 1) 262 5 [v0, v1, v2, v3, v4] [.int x2, .int x1, .ref a0, .int x3, .ref a4] (mk S I L R G) Q ↔ S a0 = some (.inr 11) ∧ XC d 133 [.ref a0, .int x1, .int x2] (mk S I L R G) (XK (d + 1) 262 5 [v0, v1, v2, v3, v4] [.int x3, .ref a4] Q) := c_callV i_262_5 rfl rfl rfl rfl (Nat.le_of_ble_eq_true rfl) (Nat.le_of_ble_eq_true rfl) rfl
theorem q_262_8 : XX d 262 8 [v0, v1, v2, v3, v4] (.int x :: st) A Q ↔ XX d 262 9 [v0, v1, v2, v3, v4] (.long x.toInt64 :: st) A Q := c_stk i_262_8 rfl
theorem q_262_9 : XX d 262 9 [v0, v1, v2, v3, v4] (.long ly :: .int x :: .ref a :: st) (mk S I L R G) Q ↔ inA (S a) ok_l x ∧ XX d 262 10 [v0, v1, v2, v3, v4] st (mk S I (wr L a (up (L a) (ix x) ly)) R G) Q := r_las i_262_9
theorem q_262_10 : XX d 262 10 [v0, v1, v2, v3, v4] st A Q ↔ XX d 262 21 [v0, v1, v2, v3, v4] st A Q := c_go i_262_10 rfl rfl
theorem q_262_13 : XX d 262 13 [v0, v1, v2, some (.ref b), v4] (.ref a :: st) A Q ↔ XX d 262 15 [v0, v1, v2, some (.ref b), some (.ref a)] st A Q := c_lcl i_262_13 rfl rfl
theorem q_262_15 : XX d 262 15 [v0, v1, v2, v3, v4] st A Q ↔ XX d 262 16 [v0, v1, v2, v3, v4] (.int (w 1) :: st) A Q := c_stk i_262_15 rfl
theorem q_262_16 : XX d 262 16 [v0, v1, v2, v3, v4] [.int x] A Q ↔ Q (.inl (some (.int x))) A := e_retI i_262_16 rfl
theorem q_262_17 : XX d 262 17 [v0, v1, v2, some (.ref b), v4] (.ref a :: st) A Q ↔ XX d 262 19 [v0, v1, v2, some (.ref b), some (.ref a)] st A Q := c_lcl i_262_17 rfl rfl
theorem q_262_19 : XX d 262 19 [v0, v1, v2, v3, v4] st A Q ↔ XX d 262 20 [v0, v1, v2, v3, v4] (.int (w 2) :: st) A Q := c_stk i_262_19 rfl
theorem q_262_20 : XX d 262 20 [v0, v1, v2, v3, v4] [.int x] A Q ↔ Q (.inl (some (.int x))) A := e_retI i_262_20 rfl
theorem q_262_21 : XX d 262 21 [v0, v1, v2, v3, v4] st A Q ↔ XX d 262 22 [v0, v1, v2, v3, v4] (.int (w 0) :: st) A Q := c_stk i_262_21 rfl
theorem q_262_22 : XX d 262 22 [v0, v1, v2, v3, v4] [.int x] A Q ↔ Q (.inl (some (.int x))) A := e_retI i_262_22 rfl
theorem q_262_e : XC d 262 [.ref a0, .int x1, .int x2, .ref a3] A Q ↔ XX d 262 0 [some (.ref a0), some (.int x1), some (.int x2), some (.ref a3), none] [] A Q := Iff.rfl
theorem i_263_0 : t_ins 263 0 = some (.aload 4) := by decide +kernel
theorem i_263_2 : t_ins 263 2 = some (.iconst 0) := by decide +kernel
theorem i_263_3 : t_ins 263 3 = some (.aload_n 0) := by decide +kernel
theorem i_263_4 : t_ins 263 4 = some (.iload_n 1) := by decide +kernel
theorem i_263_5 : t_ins 263 5 = some (.iload_n 2) := by decide +kernel
theorem i_263_6 : t_ins 263 6 = some (.iload_n 3) := by decide +kernel
theorem i_263_7 : t_ins 263 7 = some (.invokevirtual 86) := by decide +kernel
theorem i_263_10 : t_ins 263 10 = some (.i2l) := by decide +kernel
theorem i_263_11 : t_ins 263 11 = some (.lastore) := by decide +kernel
theorem i_263_12 : t_ins 263 12 = some (.goto 11) := by decide +kernel
theorem i_263_15 : t_ins 263 15 = some (.astore 5) := by decide +kernel
theorem i_263_17 : t_ins 263 17 = some (.iconst 1) := by decide +kernel
theorem i_263_18 : t_ins 263 18 = some (.ireturn) := by decide +kernel
theorem i_263_19 : t_ins 263 19 = some (.astore 5) := by decide +kernel
theorem i_263_21 : t_ins 263 21 = some (.iconst 2) := by decide +kernel
theorem i_263_22 : t_ins 263 22 = some (.ireturn) := by decide +kernel
theorem i_263_23 : t_ins 263 23 = some (.iconst 0) := by decide +kernel
theorem i_263_24 : t_ins 263 24 = some (.ireturn) := by decide +kernel
theorem q_263_0 : XX d 263 0 [v0, v1, v2, v3, some (.ref a), v5] st A Q ↔ XX d 263 2 [v0, v1, v2, v3, some (.ref a), v5] (.ref a :: st) A Q := c_lcl i_263_0 rfl rfl
theorem q_263_2 : XX d 263 2 [v0, v1, v2, v3, v4, v5] st A Q ↔ XX d 263 3 [v0, v1, v2, v3, v4, v5] (.int (w 0) :: st) A Q := c_stk i_263_2 rfl
theorem q_263_3 : XX d 263 3 [some (.ref a), v1, v2, v3, v4, v5] st A Q ↔ XX d 263 4 [some (.ref a), v1, v2, v3, v4, v5] (.ref a :: st) A Q := c_lcl i_263_3 rfl rfl
theorem q_263_4 : XX d 263 4 [v0, some (.int x), v2, v3, v4, v5] st A Q ↔ XX d 263 5 [v0, some (.int x), v2, v3, v4, v5] (.int x :: st) A Q := c_lcl i_263_4 rfl rfl
theorem q_263_5 : XX d 263 5 [v0, v1, some (.int x), v3, v4, v5] st A Q ↔ XX d 263 6 [v0, v1, some (.int x), v3, v4, v5] (.int x :: st) A Q := c_lcl i_263_5 rfl rfl
theorem q_263_6 : XX d 263 6 [v0, v1, v2, some (.int x), v4, v5] st A Q ↔ XX d 263 7 [v0, v1, v2, some (.int x), v4, v5] (.int x :: st) A Q := c_lcl i_263_6 rfl rfl
theorem q_263_7 : XX (d + 1) 263 7 [v0, v1, v2, v3, v4, v5] [.int x3, .int x2, .int x1, .ref a0, .int x4, .ref a5] (mk S I L R G) Q ↔ S a0 = some (.inr 11) ∧ XC d 134 [.ref a0, .int x1, .int x2, .int x3] (mk S I L R G) (XK (d + 1) 263 7 [v0, v1, v2, v3, v4, v5] [.int x4, .ref a5] Q) := c_callV i_263_7 rfl rfl rfl rfl (Nat.le_of_ble_eq_true rfl) (Nat.le_of_ble_eq_true rfl) rfl
theorem q_263_10 : XX d 263 10 [v0, v1, v2, v3, v4, v5] (.int x :: st) A Q ↔ XX d 263 11 [v0, v1, v2, v3, v4, v5] (.long x.toInt64 :: st) A Q := c_stk i_263_10 rfl
theorem q_263_11 : XX d 263 11 [v0, v1, v2, v3, v4, v5] (.long ly :: .int x :: .ref a :: st) (mk S I L R G) Q ↔ inA (S a) ok_l x ∧ XX d 263 12 [v0, v1, v2, v3, v4, v5] st (mk S I (wr L a (up (L a) (ix x) ly)) R G) Q := r_las i_263_11
theorem q_263_12 : XX d 263 12 [v0, v1, v2, v3, v4, v5] st A Q ↔ XX d 263 23 [v0, v1, v2, v3, v4, v5] st A Q := c_go i_263_12 rfl rfl
theorem q_263_15 : XX d 263 15 [v0, v1, v2, v3, some (.ref b), v5] (.ref a :: st) A Q ↔ XX d 263 17 [v0, v1, v2, v3, some (.ref b), some (.ref a)] st A Q := c_lcl i_263_15 rfl rfl
theorem q_263_17 : XX d 263 17 [v0, v1, v2, v3, v4, v5] st A Q ↔ XX d 263 18 [v0, v1, v2, v3, v4, v5] (.int (w 1) :: st) A Q := c_stk i_263_17 rfl
theorem q_263_18 : XX d 263 18 [v0, v1, v2, v3, v4, v5] [.int x] A Q ↔ Q (.inl (some (.int x))) A := e_retI i_263_18 rfl
theorem q_263_19 : XX d 263 19 [v0, v1, v2, v3, some (.ref b), v5] (.ref a :: st) A Q ↔ XX d 263 21 [v0, v1, v2, v3, some (.ref b), some (.ref a)] st A Q := c_lcl i_263_19 rfl rfl
theorem q_263_21 : XX d 263 21 [v0, v1, v2, v3, v4, v5] st A Q ↔ XX d 263 22 [v0, v1, v2, v3, v4, v5] (.int (w 2) :: st) A Q := c_stk i_263_21 rfl
theorem q_263_22 : XX d 263 22 [v0, v1, v2, v3, v4, v5] [.int x] A Q ↔ Q (.inl (some (.int x))) A := e_retI i_263_22 rfl
theorem q_263_23 : XX d 263 23 [v0, v1, v2, v3, v4, v5] st A Q ↔ XX d 263 24 [v0, v1, v2, v3, v4, v5] (.int (w 0) :: st) A Q := c_stk i_263_23 rfl
theorem q_263_24 : XX d 263 24 [v0, v1, v2, v3, v4, v5] [.int x] A Q ↔ Q (.inl (some (.int x))) A := e_retI i_263_24 rfl
theorem q_263_e : XC d 263 [.ref a0, .int x1, .int x2, .int x3, .ref a4] A Q ↔ XX d 263 0 [some (.ref a0), some (.int x1), some (.int x2), some (.int x3), some (.ref a4), none] [] A Q := Iff.rfl
theorem i_264_0 : t_ins 264 0 = some (.aload_n 2) := by decide +kernel
theorem i_264_1 : t_ins 264 1 = some (.iconst 0) := by decide +kernel
theorem i_264_2 : t_ins 264 2 = some (.aload_n 0) := by decide +kernel
theorem i_264_3 : t_ins 264 3 = some (.iload_n 1) := by decide +kernel
theorem i_264_4 : t_ins 264 4 = some (.invokevirtual 89) := by decide +kernel
theorem i_264_7 : t_ins 264 7 = some (.i2l) := by decide +kernel
theorem i_264_8 : t_ins 264 8 = some (.lastore) := by decide +kernel
theorem i_264_9 : t_ins 264 9 = some (.goto 6) := by decide +kernel
theorem i_264_12 : t_ins 264 12 = some (.astore_n 3) := by decide +kernel
theorem i_264_13 : t_ins 264 13 = some (.iconst 1) := by decide +kernel
theorem i_264_14 : t_ins 264 14 = some (.ireturn) := by decide +kernel
theorem i_264_15 : t_ins 264 15 = some (.iconst 0) := by decide +kernel
theorem i_264_16 : t_ins 264 16 = some (.ireturn) := by decide +kernel
theorem q_264_0 : XX d 264 0 [v0, v1, some (.ref a), v3] st A Q ↔ XX d 264 1 [v0, v1, some (.ref a), v3] (.ref a :: st) A Q := c_lcl i_264_0 rfl rfl
theorem q_264_1 : XX d 264 1 [v0, v1, v2, v3] st A Q ↔ XX d 264 2 [v0, v1, v2, v3] (.int (w 0) :: st) A Q := c_stk i_264_1 rfl
theorem q_264_2 : XX d 264 2 [some (.ref a), v1, v2, v3] st A Q ↔ XX d 264 3 [some (.ref a), v1, v2, v3] (.ref a :: st) A Q := c_lcl i_264_2 rfl rfl
theorem q_264_3 : XX d 264 3 [v0, some (.int x), v2, v3] st A Q ↔ XX d 264 4 [v0, some (.int x), v2, v3] (.int x :: st) A Q := c_lcl i_264_3 rfl rfl
theorem q_264_4 : XX (d + 1) 264 4 [v0, v1, v2, v3] [.int x1, .ref a0, .int x2, .ref a3] (mk S I L R G) Q ↔ S a0 = some (.inr 11) ∧ XC d 136 [.ref a0, .int x1] (mk S I L R G) (XK (d + 1) 264 4 [v0, v1, v2, v3] [.int x2, .ref a3] Q) := c_callV i_264_4 rfl rfl rfl rfl (Nat.le_of_ble_eq_true rfl) (Nat.le_of_ble_eq_true rfl) rfl
theorem q_264_7 : XX d 264 7 [v0, v1, v2, v3] (.int x :: st) A Q ↔ XX d 264 8 [v0, v1, v2, v3] (.long x.toInt64 :: st) A Q := c_stk i_264_7 rfl
theorem q_264_8 : XX d 264 8 [v0, v1, v2, v3] (.long ly :: .int x :: .ref a :: st) (mk S I L R G) Q ↔ inA (S a) ok_l x ∧ XX d 264 9 [v0, v1, v2, v3] st (mk S I (wr L a (up (L a) (ix x) ly)) R G) Q := r_las i_264_8
theorem q_264_9 : XX d 264 9 [v0, v1, v2, v3] st A Q ↔ XX d 264 15 [v0, v1, v2, v3] st A Q := c_go i_264_9 rfl rfl
theorem q_264_12 : XX d 264 12 [v0, v1, some (.ref b), v3] (.ref a :: st) A Q ↔ XX d 264 13 [v0, v1, some (.ref b), some (.ref a)] st A Q := c_lcl i_264_12 rfl rfl
theorem q_264_13 : XX d 264 13 [v0, v1, v2, v3] st A Q ↔ XX d 264 14 [v0, v1, v2, v3] (.int (w 1) :: st) A Q := c_stk i_264_13 rfl
theorem q_264_14 : XX d 264 14 [v0, v1, v2, v3] [.int x] A Q ↔ Q (.inl (some (.int x))) A := e_retI i_264_14 rfl
theorem q_264_15 : XX d 264 15 [v0, v1, v2, v3] st A Q ↔ XX d 264 16 [v0, v1, v2, v3] (.int (w 0) :: st) A Q := c_stk i_264_15 rfl
theorem q_264_16 : XX d 264 16 [v0, v1, v2, v3] [.int x] A Q ↔ Q (.inl (some (.int x))) A := e_retI i_264_16 rfl
theorem q_264_e : XC d 264 [.ref a0, .int x1, .ref a2] A Q ↔ XX d 264 0 [some (.ref a0), some (.int x1), some (.ref a2), none] [] A Q := Iff.rfl
end

/-! rows of methods 173 to 191 -/
section
variable {d : Nat} {Q : XO → Hp → Prop} {S : SH} {I : MI} {L : ML} {R : MR} {G : MG} {A : Hp} {st : List Value} {x y z x0 x1 x2 x3 x4 x5 x6 x7 x8 x9 : Int32} {lx ly l0 l1 l2 l3 l4 l5 l6 : Int64} {t kk jj a b a0 a1 a2 a3 a4 a5 a6 a7 a8 a9 : Nat} {o o0 o1 o2 o3 o4 : Option Nat} {v0 v1 v2 v3 v4 v5 v6 v7 v8 v9 v10 v11 v12 v13 v14 v15 v16 v17 v18 v19 v20 : Option Value}
theorem i_173_0 : t_ins 173 0 = some (.iconst 0) := by decide +kernel
theorem i_173_1 : t_ins 173 1 = some (.istore 5) := by decide +kernel
theorem i_173_3 : t_ins 173 3 = some (.iload 5) := by decide +kernel
theorem i_173_5 : t_ins 173 5 = some (.bipush 17) := by decide +kernel
theorem i_173_7 : t_ins 173 7 = some (.if_icmp .ge 32) := by decide +kernel
theorem i_173_10 : t_ins 173 10 = some (.aload_n 0) := by decide +kernel
theorem i_173_11 : t_ins 173 11 = some (.getfield 28) := by decide +kernel
theorem i_173_14 : t_ins 173 14 = some (.iload_n 3) := by decide +kernel
theorem i_173_15 : t_ins 173 15 = some (.aaload) := by decide +kernel
theorem i_173_16 : t_ins 173 16 = some (.iload 4) := by decide +kernel
theorem i_173_18 : t_ins 173 18 = some (.aaload) := by decide +kernel
theorem i_173_19 : t_ins 173 19 = some (.iload 5) := by decide +kernel
theorem i_173_21 : t_ins 173 21 = some (.aload_n 0) := by decide +kernel
theorem i_173_22 : t_ins 173 22 = some (.getfield 28) := by decide +kernel
theorem i_173_25 : t_ins 173 25 = some (.iload_n 1) := by decide +kernel
theorem i_173_26 : t_ins 173 26 = some (.aaload) := by decide +kernel
theorem i_173_27 : t_ins 173 27 = some (.iload_n 2) := by decide +kernel
theorem i_173_28 : t_ins 173 28 = some (.aaload) := by decide +kernel
theorem i_173_29 : t_ins 173 29 = some (.iload 5) := by decide +kernel
theorem i_173_31 : t_ins 173 31 = some (.iaload) := by decide +kernel
theorem i_173_32 : t_ins 173 32 = some (.iastore) := by decide +kernel
theorem i_173_33 : t_ins 173 33 = some (.iinc 5 1) := by decide +kernel
theorem i_173_36 : t_ins 173 36 = some (.goto (-33)) := by decide +kernel
theorem i_173_39 : t_ins 173 39 = some (.iconst 0) := by decide +kernel
theorem i_173_40 : t_ins 173 40 = some (.istore 5) := by decide +kernel
theorem i_173_42 : t_ins 173 42 = some (.iload 5) := by decide +kernel
theorem i_173_44 : t_ins 173 44 = some (.bipush 6) := by decide +kernel
theorem i_173_46 : t_ins 173 46 = some (.if_icmp .ge 54) := by decide +kernel
theorem i_173_49 : t_ins 173 49 = some (.iconst 0) := by decide +kernel
theorem i_173_50 : t_ins 173 50 = some (.istore 6) := by decide +kernel
theorem i_173_52 : t_ins 173 52 = some (.iload 6) := by decide +kernel
theorem i_173_54 : t_ins 173 54 = some (.bipush 8) := by decide +kernel
theorem i_173_56 : t_ins 173 56 = some (.if_icmp .ge 38) := by decide +kernel
theorem i_173_59 : t_ins 173 59 = some (.aload_n 0) := by decide +kernel
theorem i_173_60 : t_ins 173 60 = some (.getfield 33) := by decide +kernel
theorem i_173_63 : t_ins 173 63 = some (.iload_n 3) := by decide +kernel
theorem i_173_64 : t_ins 173 64 = some (.aaload) := by decide +kernel
theorem i_173_65 : t_ins 173 65 = some (.iload 4) := by decide +kernel
theorem i_173_67 : t_ins 173 67 = some (.aaload) := by decide +kernel
theorem i_173_68 : t_ins 173 68 = some (.iload 5) := by decide +kernel
theorem i_173_70 : t_ins 173 70 = some (.aaload) := by decide +kernel
theorem i_173_71 : t_ins 173 71 = some (.iload 6) := by decide +kernel
theorem i_173_73 : t_ins 173 73 = some (.aload_n 0) := by decide +kernel
theorem i_173_74 : t_ins 173 74 = some (.getfield 33) := by decide +kernel
theorem i_173_77 : t_ins 173 77 = some (.iload_n 1) := by decide +kernel
theorem i_173_78 : t_ins 173 78 = some (.aaload) := by decide +kernel
theorem i_173_79 : t_ins 173 79 = some (.iload_n 2) := by decide +kernel
theorem i_173_80 : t_ins 173 80 = some (.aaload) := by decide +kernel
theorem i_173_81 : t_ins 173 81 = some (.iload 5) := by decide +kernel
theorem i_173_83 : t_ins 173 83 = some (.aaload) := by decide +kernel
theorem i_173_84 : t_ins 173 84 = some (.iload 6) := by decide +kernel
theorem i_173_86 : t_ins 173 86 = some (.baload) := by decide +kernel
theorem i_173_87 : t_ins 173 87 = some (.bastore) := by decide +kernel
theorem i_173_88 : t_ins 173 88 = some (.iinc 6 1) := by decide +kernel
theorem i_173_91 : t_ins 173 91 = some (.goto (-39)) := by decide +kernel
theorem i_173_94 : t_ins 173 94 = some (.iinc 5 1) := by decide +kernel
theorem i_173_97 : t_ins 173 97 = some (.goto (-55)) := by decide +kernel
theorem i_173_100 : t_ins 173 100 = some (.return_) := by decide +kernel
theorem q_173_0 : XX d 173 0 [v0, v1, v2, v3, v4, v5, v6] st A Q ↔ XX d 173 1 [v0, v1, v2, v3, v4, v5, v6] (.int (w 0) :: st) A Q := c_stk i_173_0 rfl
theorem q_173_1 : XX d 173 1 [v0, v1, v2, v3, some (.int z), v5, v6] (.int x :: st) A Q ↔ XX d 173 3 [v0, v1, v2, v3, some (.int z), some (.int x), v6] st A Q := c_lcl i_173_1 rfl rfl
theorem q_173_3 : XX d 173 3 [v0, v1, v2, v3, v4, some (.int x), v6] st A Q ↔ XX d 173 5 [v0, v1, v2, v3, v4, some (.int x), v6] (.int x :: st) A Q := c_lcl i_173_3 rfl rfl
theorem q_173_5 : XX d 173 5 [v0, v1, v2, v3, v4, v5, v6] st A Q ↔ XX d 173 7 [v0, v1, v2, v3, v4, v5, v6] (.int (w 17) :: st) A Q := c_stk i_173_5 rfl
theorem q_173_7 : XX d 173 7 [v0, v1, v2, v3, v4, v5, v6] (.int y :: .int x :: st) A Q ↔ if x < y then XX d 173 10 [v0, v1, v2, v3, v4, v5, v6] st A Q else XX d 173 39 [v0, v1, v2, v3, v4, v5, v6] st A Q := b_ge i_173_7 rfl rfl rfl
theorem q_173_10 : XX d 173 10 [some (.ref a), v1, v2, v3, v4, v5, v6] st A Q ↔ XX d 173 11 [some (.ref a), v1, v2, v3, v4, v5, v6] (.ref a :: st) A Q := c_lcl i_173_10 rfl rfl
theorem q_173_11 : XX d 173 11 [v0, v1, v2, v3, v4, v5, v6] (.ref a :: st) (mk S I L R G) Q ↔ S a = some (.inr 12) ∧ XX d 173 14 [v0, v1, v2, v3, v4, v5, v6] (.ref (a + 5) :: st) (mk S I L R G) Q := r_gf i_173_11 rfl (by decide) rfl
theorem q_173_14 : XX d 173 14 [v0, v1, v2, some (.int x), v4, v5, v6] st A Q ↔ XX d 173 15 [v0, v1, v2, some (.int x), v4, v5, v6] (.int x :: st) A Q := c_lcl i_173_14 rfl rfl
theorem q_173_15 : XX d 173 15 [v0, v1, v2, v3, v4, v5, v6] (.int x :: .ref a :: st) (mk S I L R G) Q ↔ inA (S a) ok_q x ∧ XX d 173 16 [v0, v1, v2, v3, v4, v5, v6] (va_rf (R a (ix x)) :: st) (mk S I L R G) Q := r_aq i_173_15
theorem q_173_16 : XX d 173 16 [v0, v1, v2, v3, some (.int x), v5, v6] st A Q ↔ XX d 173 18 [v0, v1, v2, v3, some (.int x), v5, v6] (.int x :: st) A Q := c_lcl i_173_16 rfl rfl
theorem q_173_18 : XX d 173 18 [v0, v1, v2, v3, v4, v5, v6] (.int x :: .ref a :: st) (mk S I L R G) Q ↔ inA (S a) ok_q x ∧ XX d 173 19 [v0, v1, v2, v3, v4, v5, v6] (va_rf (R a (ix x)) :: st) (mk S I L R G) Q := r_aq i_173_18
theorem q_173_19 : XX d 173 19 [v0, v1, v2, v3, v4, some (.int x), v6] st A Q ↔ XX d 173 21 [v0, v1, v2, v3, v4, some (.int x), v6] (.int x :: st) A Q := c_lcl i_173_19 rfl rfl
theorem q_173_21 : XX d 173 21 [some (.ref a), v1, v2, v3, v4, v5, v6] st A Q ↔ XX d 173 22 [some (.ref a), v1, v2, v3, v4, v5, v6] (.ref a :: st) A Q := c_lcl i_173_21 rfl rfl
theorem q_173_22 : XX d 173 22 [v0, v1, v2, v3, v4, v5, v6] (.ref a :: st) (mk S I L R G) Q ↔ S a = some (.inr 12) ∧ XX d 173 25 [v0, v1, v2, v3, v4, v5, v6] (.ref (a + 5) :: st) (mk S I L R G) Q := r_gf i_173_22 rfl (by decide) rfl
theorem q_173_25 : XX d 173 25 [v0, some (.int x), v2, v3, v4, v5, v6] st A Q ↔ XX d 173 26 [v0, some (.int x), v2, v3, v4, v5, v6] (.int x :: st) A Q := c_lcl i_173_25 rfl rfl
theorem q_173_26 : XX d 173 26 [v0, v1, v2, v3, v4, v5, v6] (.int x :: .ref a :: st) (mk S I L R G) Q ↔ inA (S a) ok_q x ∧ XX d 173 27 [v0, v1, v2, v3, v4, v5, v6] (va_rf (R a (ix x)) :: st) (mk S I L R G) Q := r_aq i_173_26
theorem q_173_27 : XX d 173 27 [v0, v1, some (.int x), v3, v4, v5, v6] st A Q ↔ XX d 173 28 [v0, v1, some (.int x), v3, v4, v5, v6] (.int x :: st) A Q := c_lcl i_173_27 rfl rfl
theorem q_173_28 : XX d 173 28 [v0, v1, v2, v3, v4, v5, v6] (.int x :: .ref a :: st) (mk S I L R G) Q ↔ inA (S a) ok_q x ∧ XX d 173 29 [v0, v1, v2, v3, v4, v5, v6] (va_rf (R a (ix x)) :: st) (mk S I L R G) Q := r_aq i_173_28
theorem q_173_29 : XX d 173 29 [v0, v1, v2, v3, v4, some (.int x), v6] st A Q ↔ XX d 173 31 [v0, v1, v2, v3, v4, some (.int x), v6] (.int x :: st) A Q := c_lcl i_173_29 rfl rfl
theorem q_173_31 : XX d 173 31 [v0, v1, v2, v3, v4, v5, v6] (.int x :: .ref a :: st) (mk S I L R G) Q ↔ inA (S a) ok_i x ∧ XX d 173 32 [v0, v1, v2, v3, v4, v5, v6] (.int (I a (ix x)) :: st) (mk S I L R G) Q := r_ia i_173_31
theorem q_173_32 : XX d 173 32 [v0, v1, v2, v3, v4, v5, v6] (.int y :: .int x :: .ref a :: st) (mk S I L R G) Q ↔ inA (S a) ok_0 x ∧ XX d 173 33 [v0, v1, v2, v3, v4, v5, v6] st (mk S (wr I a (up (I a) (ix x) y)) L R G) Q := r_ias i_173_32
theorem q_173_33 : XX d 173 33 [v0, v1, v2, v3, some (.int z), some (.int x), v6] st A Q ↔ XX d 173 36 [v0, v1, v2, v3, some (.int z), some (.int (x + w 1)), v6] st A Q := c_lcl i_173_33 rfl rfl
theorem q_173_36 : XX d 173 36 [v0, v1, v2, v3, v4, v5, v6] st A Q ↔ XX d 173 3 [v0, v1, v2, v3, v4, v5, v6] st A Q := c_go i_173_36 rfl rfl
theorem q_173_39 : XX d 173 39 [v0, v1, v2, v3, v4, v5, v6] st A Q ↔ XX d 173 40 [v0, v1, v2, v3, v4, v5, v6] (.int (w 0) :: st) A Q := c_stk i_173_39 rfl
theorem q_173_40 : XX d 173 40 [v0, v1, v2, v3, some (.int z), v5, v6] (.int x :: st) A Q ↔ XX d 173 42 [v0, v1, v2, v3, some (.int z), some (.int x), v6] st A Q := c_lcl i_173_40 rfl rfl
theorem q_173_42 : XX d 173 42 [v0, v1, v2, v3, v4, some (.int x), v6] st A Q ↔ XX d 173 44 [v0, v1, v2, v3, v4, some (.int x), v6] (.int x :: st) A Q := c_lcl i_173_42 rfl rfl
theorem q_173_44 : XX d 173 44 [v0, v1, v2, v3, v4, v5, v6] st A Q ↔ XX d 173 46 [v0, v1, v2, v3, v4, v5, v6] (.int (w 6) :: st) A Q := c_stk i_173_44 rfl
theorem q_173_46 : XX d 173 46 [v0, v1, v2, v3, v4, v5, v6] (.int y :: .int x :: st) A Q ↔ if x < y then XX d 173 49 [v0, v1, v2, v3, v4, v5, v6] st A Q else XX d 173 100 [v0, v1, v2, v3, v4, v5, v6] st A Q := b_ge i_173_46 rfl rfl rfl
theorem q_173_49 : XX d 173 49 [v0, v1, v2, v3, v4, v5, v6] st A Q ↔ XX d 173 50 [v0, v1, v2, v3, v4, v5, v6] (.int (w 0) :: st) A Q := c_stk i_173_49 rfl
theorem q_173_50 : XX d 173 50 [v0, v1, v2, v3, v4, some (.int z), v6] (.int x :: st) A Q ↔ XX d 173 52 [v0, v1, v2, v3, v4, some (.int z), some (.int x)] st A Q := c_lcl i_173_50 rfl rfl
theorem q_173_52 : XX d 173 52 [v0, v1, v2, v3, v4, v5, some (.int x)] st A Q ↔ XX d 173 54 [v0, v1, v2, v3, v4, v5, some (.int x)] (.int x :: st) A Q := c_lcl i_173_52 rfl rfl
theorem q_173_54 : XX d 173 54 [v0, v1, v2, v3, v4, v5, v6] st A Q ↔ XX d 173 56 [v0, v1, v2, v3, v4, v5, v6] (.int (w 8) :: st) A Q := c_stk i_173_54 rfl
theorem q_173_56 : XX d 173 56 [v0, v1, v2, v3, v4, v5, v6] (.int y :: .int x :: st) A Q ↔ if x < y then XX d 173 59 [v0, v1, v2, v3, v4, v5, v6] st A Q else XX d 173 94 [v0, v1, v2, v3, v4, v5, v6] st A Q := b_ge i_173_56 rfl rfl rfl
theorem q_173_59 : XX d 173 59 [some (.ref a), v1, v2, v3, v4, v5, v6] st A Q ↔ XX d 173 60 [some (.ref a), v1, v2, v3, v4, v5, v6] (.ref a :: st) A Q := c_lcl i_173_59 rfl rfl
theorem q_173_60 : XX d 173 60 [v0, v1, v2, v3, v4, v5, v6] (.ref a :: st) (mk S I L R G) Q ↔ S a = some (.inr 12) ∧ XX d 173 63 [v0, v1, v2, v3, v4, v5, v6] (.ref (a + 843) :: st) (mk S I L R G) Q := r_gf i_173_60 rfl (by decide) rfl
theorem q_173_63 : XX d 173 63 [v0, v1, v2, some (.int x), v4, v5, v6] st A Q ↔ XX d 173 64 [v0, v1, v2, some (.int x), v4, v5, v6] (.int x :: st) A Q := c_lcl i_173_63 rfl rfl
theorem q_173_64 : XX d 173 64 [v0, v1, v2, v3, v4, v5, v6] (.int x :: .ref a :: st) (mk S I L R G) Q ↔ inA (S a) ok_q x ∧ XX d 173 65 [v0, v1, v2, v3, v4, v5, v6] (va_rf (R a (ix x)) :: st) (mk S I L R G) Q := r_aq i_173_64
theorem q_173_65 : XX d 173 65 [v0, v1, v2, v3, some (.int x), v5, v6] st A Q ↔ XX d 173 67 [v0, v1, v2, v3, some (.int x), v5, v6] (.int x :: st) A Q := c_lcl i_173_65 rfl rfl
theorem q_173_67 : XX d 173 67 [v0, v1, v2, v3, v4, v5, v6] (.int x :: .ref a :: st) (mk S I L R G) Q ↔ inA (S a) ok_q x ∧ XX d 173 68 [v0, v1, v2, v3, v4, v5, v6] (va_rf (R a (ix x)) :: st) (mk S I L R G) Q := r_aq i_173_67
theorem q_173_68 : XX d 173 68 [v0, v1, v2, v3, v4, some (.int x), v6] st A Q ↔ XX d 173 70 [v0, v1, v2, v3, v4, some (.int x), v6] (.int x :: st) A Q := c_lcl i_173_68 rfl rfl
theorem q_173_70 : XX d 173 70 [v0, v1, v2, v3, v4, v5, v6] (.int x :: .ref a :: st) (mk S I L R G) Q ↔ inA (S a) ok_q x ∧ XX d 173 71 [v0, v1, v2, v3, v4, v5, v6] (va_rf (R a (ix x)) :: st) (mk S I L R G) Q := r_aq i_173_70
theorem q_173_71 : XX d 173 71 [v0, v1, v2, v3, v4, v5, some (.int x)] st A Q ↔ XX d 173 73 [v0, v1, v2, v3, v4, v5, some (.int x)] (.int x :: st) A Q := c_lcl i_173_71 rfl rfl
theorem q_173_73 : XX d 173 73 [some (.ref a), v1, v2, v3, v4, v5, v6] st A Q ↔ XX d 173 74 [some (.ref a), v1, v2, v3, v4, v5, v6] (.ref a :: st) A Q := c_lcl i_173_73 rfl rfl
theorem q_173_74 : XX d 173 74 [v0, v1, v2, v3, v4, v5, v6] (.ref a :: st) (mk S I L R G) Q ↔ S a = some (.inr 12) ∧ XX d 173 77 [v0, v1, v2, v3, v4, v5, v6] (.ref (a + 843) :: st) (mk S I L R G) Q := r_gf i_173_74 rfl (by decide) rfl
theorem q_173_77 : XX d 173 77 [v0, some (.int x), v2, v3, v4, v5, v6] st A Q ↔ XX d 173 78 [v0, some (.int x), v2, v3, v4, v5, v6] (.int x :: st) A Q := c_lcl i_173_77 rfl rfl
theorem q_173_78 : XX d 173 78 [v0, v1, v2, v3, v4, v5, v6] (.int x :: .ref a :: st) (mk S I L R G) Q ↔ inA (S a) ok_q x ∧ XX d 173 79 [v0, v1, v2, v3, v4, v5, v6] (va_rf (R a (ix x)) :: st) (mk S I L R G) Q := r_aq i_173_78
theorem q_173_79 : XX d 173 79 [v0, v1, some (.int x), v3, v4, v5, v6] st A Q ↔ XX d 173 80 [v0, v1, some (.int x), v3, v4, v5, v6] (.int x :: st) A Q := c_lcl i_173_79 rfl rfl
theorem q_173_80 : XX d 173 80 [v0, v1, v2, v3, v4, v5, v6] (.int x :: .ref a :: st) (mk S I L R G) Q ↔ inA (S a) ok_q x ∧ XX d 173 81 [v0, v1, v2, v3, v4, v5, v6] (va_rf (R a (ix x)) :: st) (mk S I L R G) Q := r_aq i_173_80
theorem q_173_81 : XX d 173 81 [v0, v1, v2, v3, v4, some (.int x), v6] st A Q ↔ XX d 173 83 [v0, v1, v2, v3, v4, some (.int x), v6] (.int x :: st) A Q := c_lcl i_173_81 rfl rfl
theorem q_173_83 : XX d 173 83 [v0, v1, v2, v3, v4, v5, v6] (.int x :: .ref a :: st) (mk S I L R G) Q ↔ inA (S a) ok_q x ∧ XX d 173 84 [v0, v1, v2, v3, v4, v5, v6] (va_rf (R a (ix x)) :: st) (mk S I L R G) Q := r_aq i_173_83
theorem q_173_84 : XX d 173 84 [v0, v1, v2, v3, v4, v5, some (.int x)] st A Q ↔ XX d 173 86 [v0, v1, v2, v3, v4, v5, some (.int x)] (.int x :: st) A Q := c_lcl i_173_84 rfl rfl
theorem q_173_86 : XX d 173 86 [v0, v1, v2, v3, v4, v5, v6] (.int x :: .ref a :: st) (mk S I L R G) Q ↔ inA (S a) ok_b x ∧ XX d 173 87 [v0, v1, v2, v3, v4, v5, v6] (.int (I a (ix x)) :: st) (mk S I L R G) Q := r_ba i_173_86
theorem q_173_87 : XX d 173 87 [v0, v1, v2, v3, v4, v5, v6] (.int y :: .int x :: .ref a :: st) (mk S I L R G) Q ↔ bsP (S a) x y (fun y => XX d 173 88 [v0, v1, v2, v3, v4, v5, v6] st (mk S (wr I a (up (I a) (ix x) y)) L R G) Q) := r_bas i_173_87
theorem q_173_88 : XX d 173 88 [v0, v1, v2, v3, v4, some (.int z), some (.int x)] st A Q ↔ XX d 173 91 [v0, v1, v2, v3, v4, some (.int z), some (.int (x + w 1))] st A Q := c_lcl i_173_88 rfl rfl
theorem q_173_91 : XX d 173 91 [v0, v1, v2, v3, v4, v5, v6] st A Q ↔ XX d 173 52 [v0, v1, v2, v3, v4, v5, v6] st A Q := c_go i_173_91 rfl rfl
theorem q_173_94 : XX d 173 94 [v0, v1, v2, v3, some (.int z), some (.int x), v6] st A Q ↔ XX d 173 97 [v0, v1, v2, v3, some (.int z), some (.int (x + w 1)), v6] st A Q := c_lcl i_173_94 rfl rfl
theorem q_173_97 : XX d 173 97 [v0, v1, v2, v3, v4, v5, v6] st A Q ↔ XX d 173 42 [v0, v1, v2, v3, v4, v5, v6] st A Q := c_go i_173_97 rfl rfl
theorem q_173_100 : XX d 173 100 [v0, v1, v2, v3, v4, v5, v6] [] A Q ↔ Q (.inl none) A := e_retN i_173_100 rfl
theorem q_173_e : XC d 173 [.ref a0, .int x1, .int x2, .int x3, .int x4] A Q ↔ XX d 173 0 [some (.ref a0), some (.int x1), some (.int x2), some (.int x3), some (.int x4), none, none] [] A Q := Iff.rfl
theorem i_174_0 : t_ins 174 0 = some (.aload_n 0) := by decide +kernel
theorem i_174_1 : t_ins 174 1 = some (.getfield 20) := by decide +kernel
theorem i_174_4 : t_ins 174 4 = some (.iload_n 2) := by decide +kernel
theorem i_174_5 : t_ins 174 5 = some (.aload_n 0) := by decide +kernel
theorem i_174_6 : t_ins 174 6 = some (.getfield 20) := by decide +kernel
theorem i_174_9 : t_ins 174 9 = some (.iload_n 1) := by decide +kernel
theorem i_174_10 : t_ins 174 10 = some (.iaload) := by decide +kernel
theorem i_174_11 : t_ins 174 11 = some (.iastore) := by decide +kernel
theorem i_174_12 : t_ins 174 12 = some (.iconst 0) := by decide +kernel
theorem i_174_13 : t_ins 174 13 = some (.istore_n 3) := by decide +kernel
theorem i_174_14 : t_ins 174 14 = some (.iload_n 3) := by decide +kernel
theorem i_174_15 : t_ins 174 15 = some (.aload_n 0) := by decide +kernel
theorem i_174_16 : t_ins 174 16 = some (.getfield 20) := by decide +kernel
theorem i_174_19 : t_ins 174 19 = some (.iload_n 1) := by decide +kernel
theorem i_174_20 : t_ins 174 20 = some (.iaload) := by decide +kernel
theorem i_174_21 : t_ins 174 21 = some (.if_icmp .ge 17) := by decide +kernel
theorem i_174_24 : t_ins 174 24 = some (.aload_n 0) := by decide +kernel
theorem i_174_25 : t_ins 174 25 = some (.iload_n 1) := by decide +kernel
theorem i_174_26 : t_ins 174 26 = some (.iload_n 3) := by decide +kernel
theorem i_174_27 : t_ins 174 27 = some (.iload_n 2) := by decide +kernel
theorem i_174_28 : t_ins 174 28 = some (.iload_n 3) := by decide +kernel
theorem i_174_29 : t_ins 174 29 = some (.invokevirtual 215) := by decide +kernel
theorem i_174_32 : t_ins 174 32 = some (.iinc 3 1) := by decide +kernel
theorem i_174_35 : t_ins 174 35 = some (.goto (-21)) := by decide +kernel
theorem i_174_38 : t_ins 174 38 = some (.return_) := by decide +kernel
theorem q_174_0 : XX d 174 0 [some (.ref a), v1, v2, v3] st A Q ↔ XX d 174 1 [some (.ref a), v1, v2, v3] (.ref a :: st) A Q := c_lcl i_174_0 rfl rfl
theorem q_174_1 : XX d 174 1 [v0, v1, v2, v3] (.ref a :: st) (mk S I L R G) Q ↔ S a = some (.inr 12) ∧ XX d 174 4 [v0, v1, v2, v3] (.ref (a + 3) :: st) (mk S I L R G) Q := r_gf i_174_1 rfl (by decide) rfl
theorem q_174_4 : XX d 174 4 [v0, v1, some (.int x), v3] st A Q ↔ XX d 174 5 [v0, v1, some (.int x), v3] (.int x :: st) A Q := c_lcl i_174_4 rfl rfl
theorem q_174_5 : XX d 174 5 [some (.ref a), v1, v2, v3] st A Q ↔ XX d 174 6 [some (.ref a), v1, v2, v3] (.ref a :: st) A Q := c_lcl i_174_5 rfl rfl
theorem q_174_6 : XX d 174 6 [v0, v1, v2, v3] (.ref a :: st) (mk S I L R G) Q ↔ S a = some (.inr 12) ∧ XX d 174 9 [v0, v1, v2, v3] (.ref (a + 3) :: st) (mk S I L R G) Q := r_gf i_174_6 rfl (by decide) rfl
theorem q_174_9 : XX d 174 9 [v0, some (.int x), v2, v3] st A Q ↔ XX d 174 10 [v0, some (.int x), v2, v3] (.int x :: st) A Q := c_lcl i_174_9 rfl rfl
theorem q_174_10 : XX d 174 10 [v0, v1, v2, v3] (.int x :: .ref a :: st) (mk S I L R G) Q ↔ inA (S a) ok_i x ∧ XX d 174 11 [v0, v1, v2, v3] (.int (I a (ix x)) :: st) (mk S I L R G) Q := r_ia i_174_10
theorem q_174_11 : XX d 174 11 [v0, v1, v2, v3] (.int y :: .int x :: .ref a :: st) (mk S I L R G) Q ↔ inA (S a) ok_0 x ∧ XX d 174 12 [v0, v1, v2, v3] st (mk S (wr I a (up (I a) (ix x) y)) L R G) Q := r_ias i_174_11
theorem q_174_12 : XX d 174 12 [v0, v1, v2, v3] st A Q ↔ XX d 174 13 [v0, v1, v2, v3] (.int (w 0) :: st) A Q := c_stk i_174_12 rfl
theorem q_174_13 : XX d 174 13 [v0, v1, some (.int z), v3] (.int x :: st) A Q ↔ XX d 174 14 [v0, v1, some (.int z), some (.int x)] st A Q := c_lcl i_174_13 rfl rfl
theorem q_174_14 : XX d 174 14 [v0, v1, v2, some (.int x)] st A Q ↔ XX d 174 15 [v0, v1, v2, some (.int x)] (.int x :: st) A Q := c_lcl i_174_14 rfl rfl
theorem q_174_15 : XX d 174 15 [some (.ref a), v1, v2, v3] st A Q ↔ XX d 174 16 [some (.ref a), v1, v2, v3] (.ref a :: st) A Q := c_lcl i_174_15 rfl rfl
theorem q_174_16 : XX d 174 16 [v0, v1, v2, v3] (.ref a :: st) (mk S I L R G) Q ↔ S a = some (.inr 12) ∧ XX d 174 19 [v0, v1, v2, v3] (.ref (a + 3) :: st) (mk S I L R G) Q := r_gf i_174_16 rfl (by decide) rfl
theorem q_174_19 : XX d 174 19 [v0, some (.int x), v2, v3] st A Q ↔ XX d 174 20 [v0, some (.int x), v2, v3] (.int x :: st) A Q := c_lcl i_174_19 rfl rfl
theorem q_174_20 : XX d 174 20 [v0, v1, v2, v3] (.int x :: .ref a :: st) (mk S I L R G) Q ↔ inA (S a) ok_i x ∧ XX d 174 21 [v0, v1, v2, v3] (.int (I a (ix x)) :: st) (mk S I L R G) Q := r_ia i_174_20
theorem q_174_21 : XX d 174 21 [v0, v1, v2, v3] (.int y :: .int x :: st) A Q ↔ if x < y then XX d 174 24 [v0, v1, v2, v3] st A Q else XX d 174 38 [v0, v1, v2, v3] st A Q := b_ge i_174_21 rfl rfl rfl
theorem q_174_24 : XX d 174 24 [some (.ref a), v1, v2, v3] st A Q ↔ XX d 174 25 [some (.ref a), v1, v2, v3] (.ref a :: st) A Q := c_lcl i_174_24 rfl rfl
theorem q_174_25 : XX d 174 25 [v0, some (.int x), v2, v3] st A Q ↔ XX d 174 26 [v0, some (.int x), v2, v3] (.int x :: st) A Q := c_lcl i_174_25 rfl rfl
theorem q_174_26 : XX d 174 26 [v0, v1, v2, some (.int x)] st A Q ↔ XX d 174 27 [v0, v1, v2, some (.int x)] (.int x :: st) A Q := c_lcl i_174_26 rfl rfl
theorem q_174_27 : XX d 174 27 [v0, v1, some (.int x), v3] st A Q ↔ XX d 174 28 [v0, v1, some (.int x), v3] (.int x :: st) A Q := c_lcl i_174_27 rfl rfl
theorem q_174_28 : XX d 174 28 [v0, v1, v2, some (.int x)] st A Q ↔ XX d 174 29 [v0, v1, v2, some (.int x)] (.int x :: st) A Q := c_lcl i_174_28 rfl rfl
theorem q_174_29 : XX (d + 1) 174 29 [v0, v1, v2, v3] [.int x4, .int x3, .int x2, .int x1, .ref a0] (mk S I L R G) Q ↔ S a0 = some (.inr 12) ∧ XC d 173 [.ref a0, .int x1, .int x2, .int x3, .int x4] (mk S I L R G) (XK (d + 1) 174 29 [v0, v1, v2, v3] [] Q) := c_callV i_174_29 rfl rfl rfl rfl (Nat.le_of_ble_eq_true rfl) (Nat.le_of_ble_eq_true rfl) rfl
theorem q_174_32 : XX d 174 32 [v0, v1, some (.int z), some (.int x)] st A Q ↔ XX d 174 35 [v0, v1, some (.int z), some (.int (x + w 1))] st A Q := c_lcl i_174_32 rfl rfl
theorem q_174_35 : XX d 174 35 [v0, v1, v2, v3] st A Q ↔ XX d 174 14 [v0, v1, v2, v3] st A Q := c_go i_174_35 rfl rfl
theorem q_174_38 : XX d 174 38 [v0, v1, v2, v3] [] A Q ↔ Q (.inl none) A := e_retN i_174_38 rfl
theorem q_174_e : XC d 174 [.ref a0, .int x1, .int x2] A Q ↔ XX d 174 0 [some (.ref a0), some (.int x1), some (.int x2), none] [] A Q := Iff.rfl
theorem i_175_0 : t_ins 175 0 = some (.aload_n 0) := by decide +kernel
theorem i_175_1 : t_ins 175 1 = some (.iconst 0) := by decide +kernel
theorem i_175_2 : t_ins 175 2 = some (.putfield 124) := by decide +kernel
theorem i_175_5 : t_ins 175 5 = some (.aload_n 0) := by decide +kernel
theorem i_175_6 : t_ins 175 6 = some (.iload_n 1) := by decide +kernel
theorem i_175_7 : t_ins 175 7 = some (.putfield 127) := by decide +kernel
theorem i_175_10 : t_ins 175 10 = some (.aload_n 0) := by decide +kernel
theorem i_175_11 : t_ins 175 11 = some (.iconst 0) := by decide +kernel
theorem i_175_12 : t_ins 175 12 = some (.putfield 130) := by decide +kernel
theorem i_175_15 : t_ins 175 15 = some (.aload_n 0) := by decide +kernel
theorem i_175_16 : t_ins 175 16 = some (.iconst 0) := by decide +kernel
theorem i_175_17 : t_ins 175 17 = some (.putfield 137) := by decide +kernel
theorem i_175_20 : t_ins 175 20 = some (.aload_n 0) := by decide +kernel
theorem i_175_21 : t_ins 175 21 = some (.iconst (-1)) := by decide +kernel
theorem i_175_22 : t_ins 175 22 = some (.putfield 140) := by decide +kernel
theorem i_175_25 : t_ins 175 25 = some (.aload_n 0) := by decide +kernel
theorem i_175_26 : t_ins 175 26 = some (.ldc 219) := by decide +kernel
theorem i_175_28 : t_ins 175 28 = some (.invokevirtual 207) := by decide +kernel
theorem i_175_31 : t_ins 175 31 = some (.aload_n 0) := by decide +kernel
theorem i_175_32 : t_ins 175 32 = some (.iconst 0) := by decide +kernel
theorem i_175_33 : t_ins 175 33 = some (.iconst 1) := by decide +kernel
theorem i_175_34 : t_ins 175 34 = some (.invokevirtual 187) := by decide +kernel
theorem i_175_37 : t_ins 175 37 = some (.istore_n 3) := by decide +kernel
theorem i_175_38 : t_ins 175 38 = some (.aload_n 0) := by decide +kernel
theorem i_175_39 : t_ins 175 39 = some (.invokevirtual 195) := by decide +kernel
theorem i_175_42 : t_ins 175 42 = some (.aload_n 0) := by decide +kernel
theorem i_175_43 : t_ins 175 43 = some (.getfield 20) := by decide +kernel
theorem i_175_46 : t_ins 175 46 = some (.iconst 2) := by decide +kernel
theorem i_175_47 : t_ins 175 47 = some (.iconst 0) := by decide +kernel
theorem i_175_48 : t_ins 175 48 = some (.iastore) := by decide +kernel
theorem i_175_49 : t_ins 175 49 = some (.iload_n 2) := by decide +kernel
theorem i_175_50 : t_ins 175 50 = some (.ifCond .eq 9) := by decide +kernel
theorem i_175_53 : t_ins 175 53 = some (.aload_n 0) := by decide +kernel
theorem i_175_54 : t_ins 175 54 = some (.iload_n 3) := by decide +kernel
theorem i_175_55 : t_ins 175 55 = some (.iconst 2) := by decide +kernel
theorem i_175_56 : t_ins 175 56 = some (.invokevirtual 221) := by decide +kernel
theorem i_175_59 : t_ins 175 59 = some (.aload_n 0) := by decide +kernel
theorem i_175_60 : t_ins 175 60 = some (.invokevirtual 143) := by decide +kernel
theorem i_175_63 : t_ins 175 63 = some (.ifCond .eq 18) := by decide +kernel
theorem i_175_66 : t_ins 175 66 = some (.aload_n 0) := by decide +kernel
theorem i_175_67 : t_ins 175 67 = some (.invokevirtual 147) := by decide +kernel
theorem i_175_70 : t_ins 175 70 = some (.iconst (-1)) := by decide +kernel
theorem i_175_71 : t_ins 175 71 = some (.if_icmp .eq 10) := by decide +kernel
theorem i_175_74 : t_ins 175 74 = some (.aload_n 0) := by decide +kernel
theorem i_175_75 : t_ins 175 75 = some (.invokevirtual 224) := by decide +kernel
theorem i_175_78 : t_ins 175 78 = some (.goto (-19)) := by decide +kernel
theorem i_175_81 : t_ins 175 81 = some (.aload_n 0) := by decide +kernel
theorem i_175_82 : t_ins 175 82 = some (.aload_n 0) := by decide +kernel
theorem i_175_83 : t_ins 175 83 = some (.getfield 140) := by decide +kernel
theorem i_175_86 : t_ins 175 86 = some (.putfield 13) := by decide +kernel
theorem i_175_89 : t_ins 175 89 = some (.aload_n 0) := by decide +kernel
theorem i_175_90 : t_ins 175 90 = some (.invokevirtual 143) := by decide +kernel
theorem i_175_93 : t_ins 175 93 = some (.ifCond .ne 11) := by decide +kernel
theorem i_175_96 : t_ins 175 96 = some (.aload_n 0) := by decide +kernel
theorem i_175_97 : t_ins 175 97 = some (.getfield 137) := by decide +kernel
theorem i_175_100 : t_ins 175 100 = some (.bipush 10) := by decide +kernel
theorem i_175_102 : t_ins 175 102 = some (.isub) := by decide +kernel
theorem i_175_103 : t_ins 175 103 = some (.ireturn) := by decide +kernel
theorem i_175_104 : t_ins 175 104 = some (.aload_n 0) := by decide +kernel
theorem i_175_105 : t_ins 175 105 = some (.invokevirtual 227) := by decide +kernel
theorem i_175_108 : t_ins 175 108 = some (.aload_n 0) := by decide +kernel
theorem i_175_109 : t_ins 175 109 = some (.iconst 2) := by decide +kernel
theorem i_175_110 : t_ins 175 110 = some (.iload_n 3) := by decide +kernel
theorem i_175_111 : t_ins 175 111 = some (.invokevirtual 221) := by decide +kernel
theorem i_175_114 : t_ins 175 114 = some (.aload_n 0) := by decide +kernel
theorem i_175_115 : t_ins 175 115 = some (.getfield 20) := by decide +kernel
theorem i_175_118 : t_ins 175 118 = some (.iload_n 3) := by decide +kernel
theorem i_175_119 : t_ins 175 119 = some (.iaload) := by decide +kernel
theorem i_175_120 : t_ins 175 120 = some (.ireturn) := by decide +kernel
theorem q_175_0 : XX d 175 0 [some (.ref a), v1, v2, v3] st A Q ↔ XX d 175 1 [some (.ref a), v1, v2, v3] (.ref a :: st) A Q := c_lcl i_175_0 rfl rfl
theorem q_175_1 : XX d 175 1 [v0, v1, v2, v3] st A Q ↔ XX d 175 2 [v0, v1, v2, v3] (.int (w 0) :: st) A Q := c_stk i_175_1 rfl
theorem q_175_2 : XX d 175 2 [v0, v1, v2, v3] (.int x :: .ref a :: st) (mk S I L R G) Q ↔ S a = some (.inr 12) ∧ XX d 175 5 [v0, v1, v2, v3] st (mk S (wr I a (up (I a) 2 x)) L R G) Q := r_pf i_175_2 rfl (by decide) rfl rfl rfl
theorem q_175_5 : XX d 175 5 [some (.ref a), v1, v2, v3] st A Q ↔ XX d 175 6 [some (.ref a), v1, v2, v3] (.ref a :: st) A Q := c_lcl i_175_5 rfl rfl
theorem q_175_6 : XX d 175 6 [v0, some (.int x), v2, v3] st A Q ↔ XX d 175 7 [v0, some (.int x), v2, v3] (.int x :: st) A Q := c_lcl i_175_6 rfl rfl
theorem q_175_7 : XX d 175 7 [v0, v1, v2, v3] (.int x :: .ref a :: st) (mk S I L R G) Q ↔ S a = some (.inr 12) ∧ XX d 175 10 [v0, v1, v2, v3] st (mk S (wr I a (up (I a) 3 x)) L R G) Q := r_pf i_175_7 rfl (by decide) rfl rfl rfl
theorem q_175_10 : XX d 175 10 [some (.ref a), v1, v2, v3] st A Q ↔ XX d 175 11 [some (.ref a), v1, v2, v3] (.ref a :: st) A Q := c_lcl i_175_10 rfl rfl
theorem q_175_11 : XX d 175 11 [v0, v1, v2, v3] st A Q ↔ XX d 175 12 [v0, v1, v2, v3] (.int (w 0) :: st) A Q := c_stk i_175_11 rfl
theorem q_175_12 : XX d 175 12 [v0, v1, v2, v3] (.int x :: .ref a :: st) (mk S I L R G) Q ↔ S a = some (.inr 12) ∧ XX d 175 15 [v0, v1, v2, v3] st (mk S (wr I a (up (I a) 4 x)) L R G) Q := r_pf i_175_12 rfl (by decide) rfl rfl rfl
theorem q_175_15 : XX d 175 15 [some (.ref a), v1, v2, v3] st A Q ↔ XX d 175 16 [some (.ref a), v1, v2, v3] (.ref a :: st) A Q := c_lcl i_175_15 rfl rfl
theorem q_175_16 : XX d 175 16 [v0, v1, v2, v3] st A Q ↔ XX d 175 17 [v0, v1, v2, v3] (.int (w 0) :: st) A Q := c_stk i_175_16 rfl
theorem q_175_17 : XX d 175 17 [v0, v1, v2, v3] (.int x :: .ref a :: st) (mk S I L R G) Q ↔ S a = some (.inr 12) ∧ XX d 175 20 [v0, v1, v2, v3] st (mk S (wr I a (up (I a) 6 x)) L R G) Q := r_pf i_175_17 rfl (by decide) rfl rfl rfl
theorem q_175_20 : XX d 175 20 [some (.ref a), v1, v2, v3] st A Q ↔ XX d 175 21 [some (.ref a), v1, v2, v3] (.ref a :: st) A Q := c_lcl i_175_20 rfl rfl
theorem q_175_21 : XX d 175 21 [v0, v1, v2, v3] st A Q ↔ XX d 175 22 [v0, v1, v2, v3] (.int (w (-1)) :: st) A Q := c_stk i_175_21 rfl
theorem q_175_22 : XX d 175 22 [v0, v1, v2, v3] (.int x :: .ref a :: st) (mk S I L R G) Q ↔ S a = some (.inr 12) ∧ XX d 175 25 [v0, v1, v2, v3] st (mk S (wr I a (up (I a) 7 x)) L R G) Q := r_pf i_175_22 rfl (by decide) rfl rfl rfl
theorem q_175_25 : XX d 175 25 [some (.ref a), v1, v2, v3] st A Q ↔ XX d 175 26 [some (.ref a), v1, v2, v3] (.ref a :: st) A Q := c_lcl i_175_25 rfl rfl
theorem q_175_26 : XX d 175 26 [v0, v1, v2, v3] st (mk S I L R G) Q ↔ XX d 175 28 [v0, v1, v2, v3] (.ref (G.2.2 9) :: st) (mk S I L R G) Q := r_lds i_175_26 rfl rfl
theorem q_175_28 : XX (d + 1) 175 28 [v0, v1, v2, v3] [.ref a1, .ref a0] (mk S I L R G) Q ↔ S a0 = some (.inr 12) ∧ XC d 167 [.ref a0, .ref a1] (mk S I L R G) (XK (d + 1) 175 28 [v0, v1, v2, v3] [] Q) := c_callV i_175_28 rfl rfl rfl rfl (Nat.le_of_ble_eq_true rfl) (Nat.le_of_ble_eq_true rfl) rfl
theorem q_175_31 : XX d 175 31 [some (.ref a), v1, v2, v3] st A Q ↔ XX d 175 32 [some (.ref a), v1, v2, v3] (.ref a :: st) A Q := c_lcl i_175_31 rfl rfl
theorem q_175_32 : XX d 175 32 [v0, v1, v2, v3] st A Q ↔ XX d 175 33 [v0, v1, v2, v3] (.int (w 0) :: st) A Q := c_stk i_175_32 rfl
theorem q_175_33 : XX d 175 33 [v0, v1, v2, v3] st A Q ↔ XX d 175 34 [v0, v1, v2, v3] (.int (w 1) :: st) A Q := c_stk i_175_33 rfl
theorem q_175_34 : XX (d + 1) 175 34 [v0, v1, v2, v3] [.int x2, .int x1, .ref a0] (mk S I L R G) Q ↔ S a0 = some (.inr 12) ∧ XC d 164 [.ref a0, .int x1, .int x2] (mk S I L R G) (XK (d + 1) 175 34 [v0, v1, v2, v3] [] Q) := c_callV i_175_34 rfl rfl rfl rfl (Nat.le_of_ble_eq_true rfl) (Nat.le_of_ble_eq_true rfl) rfl
theorem q_175_37 : XX d 175 37 [v0, v1, some (.int z), v3] (.int x :: st) A Q ↔ XX d 175 38 [v0, v1, some (.int z), some (.int x)] st A Q := c_lcl i_175_37 rfl rfl
theorem q_175_38 : XX d 175 38 [some (.ref a), v1, v2, v3] st A Q ↔ XX d 175 39 [some (.ref a), v1, v2, v3] (.ref a :: st) A Q := c_lcl i_175_38 rfl rfl
theorem q_175_39 : XX (d + 1) 175 39 [v0, v1, v2, v3] [.ref a0] (mk S I L R G) Q ↔ S a0 = some (.inr 12) ∧ XC d 168 [.ref a0] (mk S I L R G) (XK (d + 1) 175 39 [v0, v1, v2, v3] [] Q) := c_callV i_175_39 rfl rfl rfl rfl (Nat.le_of_ble_eq_true rfl) (Nat.le_of_ble_eq_true rfl) rfl
theorem q_175_42 : XX d 175 42 [some (.ref a), v1, v2, v3] st A Q ↔ XX d 175 43 [some (.ref a), v1, v2, v3] (.ref a :: st) A Q := c_lcl i_175_42 rfl rfl
theorem q_175_43 : XX d 175 43 [v0, v1, v2, v3] (.ref a :: st) (mk S I L R G) Q ↔ S a = some (.inr 12) ∧ XX d 175 46 [v0, v1, v2, v3] (.ref (a + 3) :: st) (mk S I L R G) Q := r_gf i_175_43 rfl (by decide) rfl
theorem q_175_46 : XX d 175 46 [v0, v1, v2, v3] st A Q ↔ XX d 175 47 [v0, v1, v2, v3] (.int (w 2) :: st) A Q := c_stk i_175_46 rfl
theorem q_175_47 : XX d 175 47 [v0, v1, v2, v3] st A Q ↔ XX d 175 48 [v0, v1, v2, v3] (.int (w 0) :: st) A Q := c_stk i_175_47 rfl
theorem q_175_48 : XX d 175 48 [v0, v1, v2, v3] (.int y :: .int x :: .ref a :: st) (mk S I L R G) Q ↔ inA (S a) ok_0 x ∧ XX d 175 49 [v0, v1, v2, v3] st (mk S (wr I a (up (I a) (ix x) y)) L R G) Q := r_ias i_175_48
theorem q_175_49 : XX d 175 49 [v0, v1, some (.int x), v3] st A Q ↔ XX d 175 50 [v0, v1, some (.int x), v3] (.int x :: st) A Q := c_lcl i_175_49 rfl rfl
theorem q_175_50 : XX d 175 50 [v0, v1, v2, v3] (.int x :: st) A Q ↔ if x = w 0 then XX d 175 59 [v0, v1, v2, v3] st A Q else XX d 175 53 [v0, v1, v2, v3] st A Q := z_eq i_175_50 rfl rfl rfl
theorem q_175_53 : XX d 175 53 [some (.ref a), v1, v2, v3] st A Q ↔ XX d 175 54 [some (.ref a), v1, v2, v3] (.ref a :: st) A Q := c_lcl i_175_53 rfl rfl
theorem q_175_54 : XX d 175 54 [v0, v1, v2, some (.int x)] st A Q ↔ XX d 175 55 [v0, v1, v2, some (.int x)] (.int x :: st) A Q := c_lcl i_175_54 rfl rfl
theorem q_175_55 : XX d 175 55 [v0, v1, v2, v3] st A Q ↔ XX d 175 56 [v0, v1, v2, v3] (.int (w 2) :: st) A Q := c_stk i_175_55 rfl
theorem q_175_56 : XX (d + 1) 175 56 [v0, v1, v2, v3] [.int x2, .int x1, .ref a0] (mk S I L R G) Q ↔ S a0 = some (.inr 12) ∧ XC d 174 [.ref a0, .int x1, .int x2] (mk S I L R G) (XK (d + 1) 175 56 [v0, v1, v2, v3] [] Q) := c_callV i_175_56 rfl rfl rfl rfl (Nat.le_of_ble_eq_true rfl) (Nat.le_of_ble_eq_true rfl) rfl
theorem q_175_59 : XX d 175 59 [some (.ref a), v1, v2, v3] st A Q ↔ XX d 175 60 [some (.ref a), v1, v2, v3] (.ref a :: st) A Q := c_lcl i_175_59 rfl rfl
theorem q_175_60 : XX (d + 1) 175 60 [v0, v1, v2, v3] [.ref a0] (mk S I L R G) Q ↔ S a0 = some (.inr 12) ∧ XC d 160 [.ref a0] (mk S I L R G) (XK (d + 1) 175 60 [v0, v1, v2, v3] [] Q) := c_callV i_175_60 rfl rfl rfl rfl (Nat.le_of_ble_eq_true rfl) (Nat.le_of_ble_eq_true rfl) rfl
theorem q_175_63 : XX d 175 63 [v0, v1, v2, v3] (.int x :: st) A Q ↔ if x = w 0 then XX d 175 81 [v0, v1, v2, v3] st A Q else XX d 175 66 [v0, v1, v2, v3] st A Q := z_eq i_175_63 rfl rfl rfl
theorem q_175_66 : XX d 175 66 [some (.ref a), v1, v2, v3] st A Q ↔ XX d 175 67 [some (.ref a), v1, v2, v3] (.ref a :: st) A Q := c_lcl i_175_66 rfl rfl
theorem q_175_67 : XX (d + 1) 175 67 [v0, v1, v2, v3] [.ref a0] (mk S I L R G) Q ↔ S a0 = some (.inr 12) ∧ XC d 159 [.ref a0] (mk S I L R G) (XK (d + 1) 175 67 [v0, v1, v2, v3] [] Q) := c_callV i_175_67 rfl rfl rfl rfl (Nat.le_of_ble_eq_true rfl) (Nat.le_of_ble_eq_true rfl) rfl
theorem q_175_70 : XX d 175 70 [v0, v1, v2, v3] st A Q ↔ XX d 175 71 [v0, v1, v2, v3] (.int (w (-1)) :: st) A Q := c_stk i_175_70 rfl
theorem q_175_71 : XX d 175 71 [v0, v1, v2, v3] (.int y :: .int x :: st) A Q ↔ if x = y then XX d 175 81 [v0, v1, v2, v3] st A Q else XX d 175 74 [v0, v1, v2, v3] st A Q := b_eq i_175_71 rfl rfl rfl
theorem q_175_74 : XX d 175 74 [some (.ref a), v1, v2, v3] st A Q ↔ XX d 175 75 [some (.ref a), v1, v2, v3] (.ref a :: st) A Q := c_lcl i_175_74 rfl rfl
theorem q_175_75 : XX (d + 1) 175 75 [v0, v1, v2, v3] [.ref a0] (mk S I L R G) Q ↔ S a0 = some (.inr 12) ∧ XC d 172 [.ref a0] (mk S I L R G) (XK (d + 1) 175 75 [v0, v1, v2, v3] [] Q) := c_callV i_175_75 rfl rfl rfl rfl (Nat.le_of_ble_eq_true rfl) (Nat.le_of_ble_eq_true rfl) rfl
theorem q_175_78 : XX d 175 78 [v0, v1, v2, v3] st A Q ↔ XX d 175 59 [v0, v1, v2, v3] st A Q := c_go i_175_78 rfl rfl
theorem q_175_81 : XX d 175 81 [some (.ref a), v1, v2, v3] st A Q ↔ XX d 175 82 [some (.ref a), v1, v2, v3] (.ref a :: st) A Q := c_lcl i_175_81 rfl rfl
theorem q_175_82 : XX d 175 82 [some (.ref a), v1, v2, v3] st A Q ↔ XX d 175 83 [some (.ref a), v1, v2, v3] (.ref a :: st) A Q := c_lcl i_175_82 rfl rfl
theorem q_175_83 : XX d 175 83 [v0, v1, v2, v3] (.ref a :: st) (mk S I L R G) Q ↔ S a = some (.inr 12) ∧ XX d 175 86 [v0, v1, v2, v3] (.int (I a 7) :: st) (mk S I L R G) Q := r_gf i_175_83 rfl (by decide) rfl
theorem q_175_86 : XX d 175 86 [v0, v1, v2, v3] (.int x :: .ref a :: st) (mk S I L R G) Q ↔ S a = some (.inr 12) ∧ XX d 175 89 [v0, v1, v2, v3] st (mk S (wr I a (up (I a) 5 x)) L R G) Q := r_pf i_175_86 rfl (by decide) rfl rfl rfl
theorem q_175_89 : XX d 175 89 [some (.ref a), v1, v2, v3] st A Q ↔ XX d 175 90 [some (.ref a), v1, v2, v3] (.ref a :: st) A Q := c_lcl i_175_89 rfl rfl
theorem q_175_90 : XX (d + 1) 175 90 [v0, v1, v2, v3] [.ref a0] (mk S I L R G) Q ↔ S a0 = some (.inr 12) ∧ XC d 160 [.ref a0] (mk S I L R G) (XK (d + 1) 175 90 [v0, v1, v2, v3] [] Q) := c_callV i_175_90 rfl rfl rfl rfl (Nat.le_of_ble_eq_true rfl) (Nat.le_of_ble_eq_true rfl) rfl
theorem q_175_93 : XX d 175 93 [v0, v1, v2, v3] (.int x :: st) A Q ↔ if x = w 0 then XX d 175 96 [v0, v1, v2, v3] st A Q else XX d 175 104 [v0, v1, v2, v3] st A Q := z_ne i_175_93 rfl rfl rfl
theorem q_175_96 : XX d 175 96 [some (.ref a), v1, v2, v3] st A Q ↔ XX d 175 97 [some (.ref a), v1, v2, v3] (.ref a :: st) A Q := c_lcl i_175_96 rfl rfl
theorem q_175_97 : XX d 175 97 [v0, v1, v2, v3] (.ref a :: st) (mk S I L R G) Q ↔ S a = some (.inr 12) ∧ XX d 175 100 [v0, v1, v2, v3] (.int (I a 6) :: st) (mk S I L R G) Q := r_gf i_175_97 rfl (by decide) rfl
theorem q_175_100 : XX d 175 100 [v0, v1, v2, v3] st A Q ↔ XX d 175 102 [v0, v1, v2, v3] (.int (w 10) :: st) A Q := c_stk i_175_100 rfl
theorem q_175_102 : XX d 175 102 [v0, v1, v2, v3] (.int y :: .int x :: st) A Q ↔ XX d 175 103 [v0, v1, v2, v3] (.int (x - y) :: st) A Q := c_stk i_175_102 rfl
theorem q_175_103 : XX d 175 103 [v0, v1, v2, v3] [.int x] A Q ↔ Q (.inl (some (.int x))) A := e_retI i_175_103 rfl
theorem q_175_104 : XX d 175 104 [some (.ref a), v1, v2, v3] st A Q ↔ XX d 175 105 [some (.ref a), v1, v2, v3] (.ref a :: st) A Q := c_lcl i_175_104 rfl rfl
theorem q_175_105 : XX (d + 1) 175 105 [v0, v1, v2, v3] [.ref a0] (mk S I L R G) Q ↔ S a0 = some (.inr 12) ∧ XC d 179 [.ref a0] (mk S I L R G) (XK (d + 1) 175 105 [v0, v1, v2, v3] [] Q) := c_callV i_175_105 rfl rfl rfl rfl (Nat.le_of_ble_eq_true rfl) (Nat.le_of_ble_eq_true rfl) rfl
theorem q_175_108 : XX d 175 108 [some (.ref a), v1, v2, v3] st A Q ↔ XX d 175 109 [some (.ref a), v1, v2, v3] (.ref a :: st) A Q := c_lcl i_175_108 rfl rfl
theorem q_175_109 : XX d 175 109 [v0, v1, v2, v3] st A Q ↔ XX d 175 110 [v0, v1, v2, v3] (.int (w 2) :: st) A Q := c_stk i_175_109 rfl
theorem q_175_110 : XX d 175 110 [v0, v1, v2, some (.int x)] st A Q ↔ XX d 175 111 [v0, v1, v2, some (.int x)] (.int x :: st) A Q := c_lcl i_175_110 rfl rfl
theorem q_175_111 : XX (d + 1) 175 111 [v0, v1, v2, v3] [.int x2, .int x1, .ref a0] (mk S I L R G) Q ↔ S a0 = some (.inr 12) ∧ XC d 174 [.ref a0, .int x1, .int x2] (mk S I L R G) (XK (d + 1) 175 111 [v0, v1, v2, v3] [] Q) := c_callV i_175_111 rfl rfl rfl rfl (Nat.le_of_ble_eq_true rfl) (Nat.le_of_ble_eq_true rfl) rfl
theorem q_175_114 : XX d 175 114 [some (.ref a), v1, v2, v3] st A Q ↔ XX d 175 115 [some (.ref a), v1, v2, v3] (.ref a :: st) A Q := c_lcl i_175_114 rfl rfl
theorem q_175_115 : XX d 175 115 [v0, v1, v2, v3] (.ref a :: st) (mk S I L R G) Q ↔ S a = some (.inr 12) ∧ XX d 175 118 [v0, v1, v2, v3] (.ref (a + 3) :: st) (mk S I L R G) Q := r_gf i_175_115 rfl (by decide) rfl
theorem q_175_118 : XX d 175 118 [v0, v1, v2, some (.int x)] st A Q ↔ XX d 175 119 [v0, v1, v2, some (.int x)] (.int x :: st) A Q := c_lcl i_175_118 rfl rfl
theorem q_175_119 : XX d 175 119 [v0, v1, v2, v3] (.int x :: .ref a :: st) (mk S I L R G) Q ↔ inA (S a) ok_i x ∧ XX d 175 120 [v0, v1, v2, v3] (.int (I a (ix x)) :: st) (mk S I L R G) Q := r_ia i_175_119
theorem q_175_120 : XX d 175 120 [v0, v1, v2, v3] [.int x] A Q ↔ Q (.inl (some (.int x))) A := e_retI i_175_120 rfl
theorem q_175_e : XC d 175 [.ref a0, .int x1, .int x2] A Q ↔ XX d 175 0 [some (.ref a0), some (.int x1), some (.int x2), none] [] A Q := Iff.rfl
theorem i_176_0 : t_ins 176 0 = some (.aload_n 0) := by decide +kernel
theorem i_176_1 : t_ins 176 1 = some (.iconst 0) := by decide +kernel
theorem i_176_2 : t_ins 176 2 = some (.putfield 121) := by decide +kernel
theorem i_176_5 : t_ins 176 5 = some (.aload_n 0) := by decide +kernel
theorem i_176_6 : t_ins 176 6 = some (.iload_n 1) := by decide +kernel
theorem i_176_7 : t_ins 176 7 = some (.iconst 0) := by decide +kernel
theorem i_176_8 : t_ins 176 8 = some (.aload_n 0) := by decide +kernel
theorem i_176_9 : t_ins 176 9 = some (.getfield 124) := by decide +kernel
theorem i_176_12 : t_ins 176 12 = some (.invokestatic 230) := by decide +kernel
theorem i_176_15 : t_ins 176 15 = some (.ifCond .ne 7) := by decide +kernel
theorem i_176_18 : t_ins 176 18 = some (.iconst 1) := by decide +kernel
theorem i_176_19 : t_ins 176 19 = some (.goto 4) := by decide +kernel
theorem i_176_22 : t_ins 176 22 = some (.iconst 0) := by decide +kernel
theorem i_176_23 : t_ins 176 23 = some (.iconst 1) := by decide +kernel
theorem i_176_24 : t_ins 176 24 = some (.iconst 1) := by decide +kernel
theorem i_176_25 : t_ins 176 25 = some (.invokevirtual 234) := by decide +kernel
theorem i_176_28 : t_ins 176 28 = some (.ifCond .eq 5) := by decide +kernel
theorem i_176_31 : t_ins 176 31 = some (.iconst 0) := by decide +kernel
theorem i_176_32 : t_ins 176 32 = some (.ireturn) := by decide +kernel
theorem i_176_33 : t_ins 176 33 = some (.aload_n 0) := by decide +kernel
theorem i_176_34 : t_ins 176 34 = some (.iload_n 1) := by decide +kernel
theorem i_176_35 : t_ins 176 35 = some (.iconst 0) := by decide +kernel
theorem i_176_36 : t_ins 176 36 = some (.invokevirtual 238) := by decide +kernel
theorem i_176_39 : t_ins 176 39 = some (.ireturn) := by decide +kernel
theorem q_176_0 : XX d 176 0 [some (.ref a), v1] st A Q ↔ XX d 176 1 [some (.ref a), v1] (.ref a :: st) A Q := c_lcl i_176_0 rfl rfl
theorem q_176_1 : XX d 176 1 [v0, v1] st A Q ↔ XX d 176 2 [v0, v1] (.int (w 0) :: st) A Q := c_stk i_176_1 rfl
theorem q_176_2 : XX d 176 2 [v0, v1] (.int x :: .ref a :: st) (mk S I L R G) Q ↔ S a = some (.inr 12) ∧ XX d 176 5 [v0, v1] st (mk S (wr I a (up (I a) 0 x)) L R G) Q := r_pf i_176_2 rfl (by decide) rfl rfl rfl
theorem q_176_5 : XX d 176 5 [some (.ref a), v1] st A Q ↔ XX d 176 6 [some (.ref a), v1] (.ref a :: st) A Q := c_lcl i_176_5 rfl rfl
theorem q_176_6 : XX d 176 6 [v0, some (.int x)] st A Q ↔ XX d 176 7 [v0, some (.int x)] (.int x :: st) A Q := c_lcl i_176_6 rfl rfl
theorem q_176_7 : XX d 176 7 [v0, v1] st A Q ↔ XX d 176 8 [v0, v1] (.int (w 0) :: st) A Q := c_stk i_176_7 rfl
theorem q_176_8 : XX d 176 8 [some (.ref a), v1] st A Q ↔ XX d 176 9 [some (.ref a), v1] (.ref a :: st) A Q := c_lcl i_176_8 rfl rfl
theorem q_176_9 : XX d 176 9 [v0, v1] (.ref a :: st) (mk S I L R G) Q ↔ S a = some (.inr 12) ∧ XX d 176 12 [v0, v1] (.int (I a 2) :: st) (mk S I L R G) Q := r_gf i_176_9 rfl (by decide) rfl
theorem q_176_12 : XX (d + 1) 176 12 [v0, v1] [.int x2, .int x1, .int x0, .ref a3] A Q ↔ XC d 155 [.int x0, .int x1, .int x2] A (XK (d + 1) 176 12 [v0, v1] [.ref a3] Q) := c_callS i_176_12 rfl rfl rfl rfl (Nat.le_of_ble_eq_true rfl) (Nat.le_of_ble_eq_true rfl)
theorem q_176_15 : XX d 176 15 [v0, v1] (.int x :: st) A Q ↔ if x = w 0 then XX d 176 18 [v0, v1] st A Q else XX d 176 22 [v0, v1] st A Q := z_ne i_176_15 rfl rfl rfl
theorem q_176_18 : XX d 176 18 [v0, v1] st A Q ↔ XX d 176 19 [v0, v1] (.int (w 1) :: st) A Q := c_stk i_176_18 rfl
theorem q_176_19 : XX d 176 19 [v0, v1] st A Q ↔ XX d 176 23 [v0, v1] st A Q := c_go i_176_19 rfl rfl
theorem q_176_22 : XX d 176 22 [v0, v1] st A Q ↔ XX d 176 23 [v0, v1] (.int (w 0) :: st) A Q := c_stk i_176_22 rfl
theorem q_176_23 : XX d 176 23 [v0, v1] st A Q ↔ XX d 176 24 [v0, v1] (.int (w 1) :: st) A Q := c_stk i_176_23 rfl
theorem q_176_24 : XX d 176 24 [v0, v1] st A Q ↔ XX d 176 25 [v0, v1] (.int (w 1) :: st) A Q := c_stk i_176_24 rfl
theorem q_176_25 : XX (d + 1) 176 25 [v0, v1] [.int x3, .int x2, .int x1, .ref a0] (mk S I L R G) Q ↔ S a0 = some (.inr 12) ∧ XC d 154 [.ref a0, .int x1, .int x2, .int x3] (mk S I L R G) (XK (d + 1) 176 25 [v0, v1] [] Q) := c_callV i_176_25 rfl rfl rfl rfl (Nat.le_of_ble_eq_true rfl) (Nat.le_of_ble_eq_true rfl) rfl
theorem q_176_28 : XX d 176 28 [v0, v1] (.int x :: st) A Q ↔ if x = w 0 then XX d 176 33 [v0, v1] st A Q else XX d 176 31 [v0, v1] st A Q := z_eq i_176_28 rfl rfl rfl
theorem q_176_31 : XX d 176 31 [v0, v1] st A Q ↔ XX d 176 32 [v0, v1] (.int (w 0) :: st) A Q := c_stk i_176_31 rfl
theorem q_176_32 : XX d 176 32 [v0, v1] [.int x] A Q ↔ Q (.inl (some (.int x))) A := e_retI i_176_32 rfl
theorem q_176_33 : XX d 176 33 [some (.ref a), v1] st A Q ↔ XX d 176 34 [some (.ref a), v1] (.ref a :: st) A Q := c_lcl i_176_33 rfl rfl
theorem q_176_34 : XX d 176 34 [v0, some (.int x)] st A Q ↔ XX d 176 35 [v0, some (.int x)] (.int x :: st) A Q := c_lcl i_176_34 rfl rfl
theorem q_176_35 : XX d 176 35 [v0, v1] st A Q ↔ XX d 176 36 [v0, v1] (.int (w 0) :: st) A Q := c_stk i_176_35 rfl
theorem q_176_36 : XX (d + 1) 176 36 [v0, v1] [.int x2, .int x1, .ref a0] (mk S I L R G) Q ↔ S a0 = some (.inr 12) ∧ XC d 175 [.ref a0, .int x1, .int x2] (mk S I L R G) (XK (d + 1) 176 36 [v0, v1] [] Q) := c_callV i_176_36 rfl rfl rfl rfl (Nat.le_of_ble_eq_true rfl) (Nat.le_of_ble_eq_true rfl) rfl
theorem q_176_39 : XX d 176 39 [v0, v1] [.int x] A Q ↔ Q (.inl (some (.int x))) A := e_retI i_176_39 rfl
theorem q_176_e : XC d 176 [.ref a0, .int x1] A Q ↔ XX d 176 0 [some (.ref a0), some (.int x1)] [] A Q := Iff.rfl
theorem i_177_0 : t_ins 177 0 = some (.aload_n 0) := by decide +kernel
theorem i_177_1 : t_ins 177 1 = some (.iconst 0) := by decide +kernel
theorem i_177_2 : t_ins 177 2 = some (.putfield 121) := by decide +kernel
theorem i_177_5 : t_ins 177 5 = some (.aload_n 0) := by decide +kernel
theorem i_177_6 : t_ins 177 6 = some (.iload_n 1) := by decide +kernel
theorem i_177_7 : t_ins 177 7 = some (.iconst 0) := by decide +kernel
theorem i_177_8 : t_ins 177 8 = some (.aload_n 0) := by decide +kernel
theorem i_177_9 : t_ins 177 9 = some (.getfield 124) := by decide +kernel
theorem i_177_12 : t_ins 177 12 = some (.invokestatic 230) := by decide +kernel
theorem i_177_15 : t_ins 177 15 = some (.ifCond .ne 7) := by decide +kernel
theorem i_177_18 : t_ins 177 18 = some (.iconst 1) := by decide +kernel
theorem i_177_19 : t_ins 177 19 = some (.goto 4) := by decide +kernel
theorem i_177_22 : t_ins 177 22 = some (.iconst 0) := by decide +kernel
theorem i_177_23 : t_ins 177 23 = some (.iconst 1) := by decide +kernel
theorem i_177_24 : t_ins 177 24 = some (.iconst 1) := by decide +kernel
theorem i_177_25 : t_ins 177 25 = some (.invokevirtual 234) := by decide +kernel
theorem i_177_28 : t_ins 177 28 = some (.ifCond .eq 5) := by decide +kernel
theorem i_177_31 : t_ins 177 31 = some (.iconst 0) := by decide +kernel
theorem i_177_32 : t_ins 177 32 = some (.ireturn) := by decide +kernel
theorem i_177_33 : t_ins 177 33 = some (.aload_n 0) := by decide +kernel
theorem i_177_34 : t_ins 177 34 = some (.iload_n 1) := by decide +kernel
theorem i_177_35 : t_ins 177 35 = some (.iconst 1) := by decide +kernel
theorem i_177_36 : t_ins 177 36 = some (.invokevirtual 238) := by decide +kernel
theorem i_177_39 : t_ins 177 39 = some (.ireturn) := by decide +kernel
theorem q_177_0 : XX d 177 0 [some (.ref a), v1] st A Q ↔ XX d 177 1 [some (.ref a), v1] (.ref a :: st) A Q := c_lcl i_177_0 rfl rfl
theorem q_177_1 : XX d 177 1 [v0, v1] st A Q ↔ XX d 177 2 [v0, v1] (.int (w 0) :: st) A Q := c_stk i_177_1 rfl
theorem q_177_2 : XX d 177 2 [v0, v1] (.int x :: .ref a :: st) (mk S I L R G) Q ↔ S a = some (.inr 12) ∧ XX d 177 5 [v0, v1] st (mk S (wr I a (up (I a) 0 x)) L R G) Q := r_pf i_177_2 rfl (by decide) rfl rfl rfl
theorem q_177_5 : XX d 177 5 [some (.ref a), v1] st A Q ↔ XX d 177 6 [some (.ref a), v1] (.ref a :: st) A Q := c_lcl i_177_5 rfl rfl
theorem q_177_6 : XX d 177 6 [v0, some (.int x)] st A Q ↔ XX d 177 7 [v0, some (.int x)] (.int x :: st) A Q := c_lcl i_177_6 rfl rfl
theorem q_177_7 : XX d 177 7 [v0, v1] st A Q ↔ XX d 177 8 [v0, v1] (.int (w 0) :: st) A Q := c_stk i_177_7 rfl
theorem q_177_8 : XX d 177 8 [some (.ref a), v1] st A Q ↔ XX d 177 9 [some (.ref a), v1] (.ref a :: st) A Q := c_lcl i_177_8 rfl rfl
theorem q_177_9 : XX d 177 9 [v0, v1] (.ref a :: st) (mk S I L R G) Q ↔ S a = some (.inr 12) ∧ XX d 177 12 [v0, v1] (.int (I a 2) :: st) (mk S I L R G) Q := r_gf i_177_9 rfl (by decide) rfl
theorem q_177_12 : XX (d + 1) 177 12 [v0, v1] [.int x2, .int x1, .int x0, .ref a3] A Q ↔ XC d 155 [.int x0, .int x1, .int x2] A (XK (d + 1) 177 12 [v0, v1] [.ref a3] Q) := c_callS i_177_12 rfl rfl rfl rfl (Nat.le_of_ble_eq_true rfl) (Nat.le_of_ble_eq_true rfl)
theorem q_177_15 : XX d 177 15 [v0, v1] (.int x :: st) A Q ↔ if x = w 0 then XX d 177 18 [v0, v1] st A Q else XX d 177 22 [v0, v1] st A Q := z_ne i_177_15 rfl rfl rfl
theorem q_177_18 : XX d 177 18 [v0, v1] st A Q ↔ XX d 177 19 [v0, v1] (.int (w 1) :: st) A Q := c_stk i_177_18 rfl
theorem q_177_19 : XX d 177 19 [v0, v1] st A Q ↔ XX d 177 23 [v0, v1] st A Q := c_go i_177_19 rfl rfl
theorem q_177_22 : XX d 177 22 [v0, v1] st A Q ↔ XX d 177 23 [v0, v1] (.int (w 0) :: st) A Q := c_stk i_177_22 rfl
theorem q_177_23 : XX d 177 23 [v0, v1] st A Q ↔ XX d 177 24 [v0, v1] (.int (w 1) :: st) A Q := c_stk i_177_23 rfl
theorem q_177_24 : XX d 177 24 [v0, v1] st A Q ↔ XX d 177 25 [v0, v1] (.int (w 1) :: st) A Q := c_stk i_177_24 rfl
theorem q_177_25 : XX (d + 1) 177 25 [v0, v1] [.int x3, .int x2, .int x1, .ref a0] (mk S I L R G) Q ↔ S a0 = some (.inr 12) ∧ XC d 154 [.ref a0, .int x1, .int x2, .int x3] (mk S I L R G) (XK (d + 1) 177 25 [v0, v1] [] Q) := c_callV i_177_25 rfl rfl rfl rfl (Nat.le_of_ble_eq_true rfl) (Nat.le_of_ble_eq_true rfl) rfl
theorem q_177_28 : XX d 177 28 [v0, v1] (.int x :: st) A Q ↔ if x = w 0 then XX d 177 33 [v0, v1] st A Q else XX d 177 31 [v0, v1] st A Q := z_eq i_177_28 rfl rfl rfl
theorem q_177_31 : XX d 177 31 [v0, v1] st A Q ↔ XX d 177 32 [v0, v1] (.int (w 0) :: st) A Q := c_stk i_177_31 rfl
theorem q_177_32 : XX d 177 32 [v0, v1] [.int x] A Q ↔ Q (.inl (some (.int x))) A := e_retI i_177_32 rfl
theorem q_177_33 : XX d 177 33 [some (.ref a), v1] st A Q ↔ XX d 177 34 [some (.ref a), v1] (.ref a :: st) A Q := c_lcl i_177_33 rfl rfl
theorem q_177_34 : XX d 177 34 [v0, some (.int x)] st A Q ↔ XX d 177 35 [v0, some (.int x)] (.int x :: st) A Q := c_lcl i_177_34 rfl rfl
theorem q_177_35 : XX d 177 35 [v0, v1] st A Q ↔ XX d 177 36 [v0, v1] (.int (w 1) :: st) A Q := c_stk i_177_35 rfl
theorem q_177_36 : XX (d + 1) 177 36 [v0, v1] [.int x2, .int x1, .ref a0] (mk S I L R G) Q ↔ S a0 = some (.inr 12) ∧ XC d 175 [.ref a0, .int x1, .int x2] (mk S I L R G) (XK (d + 1) 177 36 [v0, v1] [] Q) := c_callV i_177_36 rfl rfl rfl rfl (Nat.le_of_ble_eq_true rfl) (Nat.le_of_ble_eq_true rfl) rfl
theorem q_177_39 : XX d 177 39 [v0, v1] [.int x] A Q ↔ Q (.inl (some (.int x))) A := e_retI i_177_39 rfl
theorem q_177_e : XC d 177 [.ref a0, .int x1] A Q ↔ XX d 177 0 [some (.ref a0), some (.int x1)] [] A Q := Iff.rfl
theorem i_178_0 : t_ins 178 0 = some (.aload_n 0) := by decide +kernel
theorem i_178_1 : t_ins 178 1 = some (.iconst 0) := by decide +kernel
theorem i_178_2 : t_ins 178 2 = some (.putfield 121) := by decide +kernel
theorem i_178_5 : t_ins 178 5 = some (.aload_n 0) := by decide +kernel
theorem i_178_6 : t_ins 178 6 = some (.getfield 13) := by decide +kernel
theorem i_178_9 : t_ins 178 9 = some (.ireturn) := by decide +kernel
theorem q_178_0 : XX d 178 0 [some (.ref a)] st A Q ↔ XX d 178 1 [some (.ref a)] (.ref a :: st) A Q := c_lcl i_178_0 rfl rfl
theorem q_178_1 : XX d 178 1 [v0] st A Q ↔ XX d 178 2 [v0] (.int (w 0) :: st) A Q := c_stk i_178_1 rfl
theorem q_178_2 : XX d 178 2 [v0] (.int x :: .ref a :: st) (mk S I L R G) Q ↔ S a = some (.inr 12) ∧ XX d 178 5 [v0] st (mk S (wr I a (up (I a) 0 x)) L R G) Q := r_pf i_178_2 rfl (by decide) rfl rfl rfl
theorem q_178_5 : XX d 178 5 [some (.ref a)] st A Q ↔ XX d 178 6 [some (.ref a)] (.ref a :: st) A Q := c_lcl i_178_5 rfl rfl
theorem q_178_6 : XX d 178 6 [v0] (.ref a :: st) (mk S I L R G) Q ↔ S a = some (.inr 12) ∧ XX d 178 9 [v0] (.int (I a 5) :: st) (mk S I L R G) Q := r_gf i_178_6 rfl (by decide) rfl
theorem q_178_9 : XX d 178 9 [v0] [.int x] A Q ↔ Q (.inl (some (.int x))) A := e_retI i_178_9 rfl
theorem q_178_e : XC d 178 [.ref a0] A Q ↔ XX d 178 0 [some (.ref a0)] [] A Q := Iff.rfl
theorem i_179_0 : t_ins 179 0 = some (.aload_n 0) := by decide +kernel
theorem i_179_1 : t_ins 179 1 = some (.iconst (-1)) := by decide +kernel
theorem i_179_2 : t_ins 179 2 = some (.putfield 51) := by decide +kernel
theorem i_179_5 : t_ins 179 5 = some (.aload_n 0) := by decide +kernel
theorem i_179_6 : t_ins 179 6 = some (.getfield 242) := by decide +kernel
theorem i_179_9 : t_ins 179 9 = some (.bipush 12) := by decide +kernel
theorem i_179_11 : t_ins 179 11 = some (.if_icmp .ne 74) := by decide +kernel
theorem i_179_14 : t_ins 179 14 = some (.iconst 1) := by decide +kernel
theorem i_179_15 : t_ins 179 15 = some (.istore_n 1) := by decide +kernel
theorem i_179_16 : t_ins 179 16 = some (.iload_n 1) := by decide +kernel
theorem i_179_17 : t_ins 179 17 = some (.bipush 12) := by decide +kernel
theorem i_179_19 : t_ins 179 19 = some (.if_icmp .ge 56) := by decide +kernel
theorem i_179_22 : t_ins 179 22 = some (.aload_n 0) := by decide +kernel
theorem i_179_23 : t_ins 179 23 = some (.getfield 23) := by decide +kernel
theorem i_179_26 : t_ins 179 26 = some (.iload_n 1) := by decide +kernel
theorem i_179_27 : t_ins 179 27 = some (.iconst 1) := by decide +kernel
theorem i_179_28 : t_ins 179 28 = some (.isub) := by decide +kernel
theorem i_179_29 : t_ins 179 29 = some (.aload_n 0) := by decide +kernel
theorem i_179_30 : t_ins 179 30 = some (.getfield 23) := by decide +kernel
theorem i_179_33 : t_ins 179 33 = some (.iload_n 1) := by decide +kernel
theorem i_179_34 : t_ins 179 34 = some (.iaload) := by decide +kernel
theorem i_179_35 : t_ins 179 35 = some (.iastore) := by decide +kernel
theorem i_179_36 : t_ins 179 36 = some (.iconst 0) := by decide +kernel
theorem i_179_37 : t_ins 179 37 = some (.istore_n 2) := by decide +kernel
theorem i_179_38 : t_ins 179 38 = some (.iload_n 2) := by decide +kernel
theorem i_179_39 : t_ins 179 39 = some (.iconst 2) := by decide +kernel
theorem i_179_40 : t_ins 179 40 = some (.if_icmp .ge 29) := by decide +kernel
theorem i_179_43 : t_ins 179 43 = some (.aload_n 0) := by decide +kernel
theorem i_179_44 : t_ins 179 44 = some (.iconst 3) := by decide +kernel
theorem i_179_45 : t_ins 179 45 = some (.iconst 2) := by decide +kernel
theorem i_179_46 : t_ins 179 46 = some (.iload_n 1) := by decide +kernel
theorem i_179_47 : t_ins 179 47 = some (.imul) := by decide +kernel
theorem i_179_48 : t_ins 179 48 = some (.iadd) := by decide +kernel
theorem i_179_49 : t_ins 179 49 = some (.iload_n 2) := by decide +kernel
theorem i_179_50 : t_ins 179 50 = some (.iadd) := by decide +kernel
theorem i_179_51 : t_ins 179 51 = some (.iconst 3) := by decide +kernel
theorem i_179_52 : t_ins 179 52 = some (.iconst 2) := by decide +kernel
theorem i_179_53 : t_ins 179 53 = some (.iload_n 1) := by decide +kernel
theorem i_179_54 : t_ins 179 54 = some (.imul) := by decide +kernel
theorem i_179_55 : t_ins 179 55 = some (.iadd) := by decide +kernel
theorem i_179_56 : t_ins 179 56 = some (.iconst 2) := by decide +kernel
theorem i_179_57 : t_ins 179 57 = some (.isub) := by decide +kernel
theorem i_179_58 : t_ins 179 58 = some (.iload_n 2) := by decide +kernel
theorem i_179_59 : t_ins 179 59 = some (.iadd) := by decide +kernel
theorem i_179_60 : t_ins 179 60 = some (.invokevirtual 221) := by decide +kernel
theorem i_179_63 : t_ins 179 63 = some (.iinc 2 1) := by decide +kernel
theorem i_179_66 : t_ins 179 66 = some (.goto (-28)) := by decide +kernel
theorem i_179_69 : t_ins 179 69 = some (.iinc 1 1) := by decide +kernel
theorem i_179_72 : t_ins 179 72 = some (.goto (-56)) := by decide +kernel
theorem i_179_75 : t_ins 179 75 = some (.aload_n 0) := by decide +kernel
theorem i_179_76 : t_ins 179 76 = some (.dup) := by decide +kernel
theorem i_179_77 : t_ins 179 77 = some (.getfield 242) := by decide +kernel
theorem i_179_80 : t_ins 179 80 = some (.iconst 1) := by decide +kernel
theorem i_179_81 : t_ins 179 81 = some (.isub) := by decide +kernel
theorem i_179_82 : t_ins 179 82 = some (.putfield 242) := by decide +kernel
theorem i_179_85 : t_ins 179 85 = some (.aload_n 0) := by decide +kernel
theorem i_179_86 : t_ins 179 86 = some (.getfield 23) := by decide +kernel
theorem i_179_89 : t_ins 179 89 = some (.aload_n 0) := by decide +kernel
theorem i_179_90 : t_ins 179 90 = some (.getfield 242) := by decide +kernel
theorem i_179_93 : t_ins 179 93 = some (.aload_n 0) := by decide +kernel
theorem i_179_94 : t_ins 179 94 = some (.getfield 36) := by decide +kernel
theorem i_179_97 : t_ins 179 97 = some (.iastore) := by decide +kernel
theorem i_179_98 : t_ins 179 98 = some (.iconst 0) := by decide +kernel
theorem i_179_99 : t_ins 179 99 = some (.istore_n 1) := by decide +kernel
theorem i_179_100 : t_ins 179 100 = some (.iload_n 1) := by decide +kernel
theorem i_179_101 : t_ins 179 101 = some (.iconst 2) := by decide +kernel
theorem i_179_102 : t_ins 179 102 = some (.if_icmp .ge 24) := by decide +kernel
theorem i_179_105 : t_ins 179 105 = some (.aload_n 0) := by decide +kernel
theorem i_179_106 : t_ins 179 106 = some (.iload_n 1) := by decide +kernel
theorem i_179_107 : t_ins 179 107 = some (.iconst 3) := by decide +kernel
theorem i_179_108 : t_ins 179 108 = some (.iconst 2) := by decide +kernel
theorem i_179_109 : t_ins 179 109 = some (.aload_n 0) := by decide +kernel
theorem i_179_110 : t_ins 179 110 = some (.getfield 242) := by decide +kernel
theorem i_179_113 : t_ins 179 113 = some (.imul) := by decide +kernel
theorem i_179_114 : t_ins 179 114 = some (.iadd) := by decide +kernel
theorem i_179_115 : t_ins 179 115 = some (.iload_n 1) := by decide +kernel
theorem i_179_116 : t_ins 179 116 = some (.iadd) := by decide +kernel
theorem i_179_117 : t_ins 179 117 = some (.invokevirtual 221) := by decide +kernel
theorem i_179_120 : t_ins 179 120 = some (.iinc 1 1) := by decide +kernel
theorem i_179_123 : t_ins 179 123 = some (.goto (-23)) := by decide +kernel
theorem i_179_126 : t_ins 179 126 = some (.aload_n 0) := by decide +kernel
theorem i_179_127 : t_ins 179 127 = some (.dup) := by decide +kernel
theorem i_179_128 : t_ins 179 128 = some (.getfield 242) := by decide +kernel
theorem i_179_131 : t_ins 179 131 = some (.iconst 1) := by decide +kernel
theorem i_179_132 : t_ins 179 132 = some (.iadd) := by decide +kernel
theorem i_179_133 : t_ins 179 133 = some (.putfield 242) := by decide +kernel
theorem i_179_136 : t_ins 179 136 = some (.return_) := by decide +kernel
theorem q_179_0 : XX d 179 0 [some (.ref a), v1, v2] st A Q ↔ XX d 179 1 [some (.ref a), v1, v2] (.ref a :: st) A Q := c_lcl i_179_0 rfl rfl
theorem q_179_1 : XX d 179 1 [v0, v1, v2] st A Q ↔ XX d 179 2 [v0, v1, v2] (.int (w (-1)) :: st) A Q := c_stk i_179_1 rfl
theorem q_179_2 : XX d 179 2 [v0, v1, v2] (.int x :: .ref a :: st) (mk S I L R G) Q ↔ S a = some (.inr 12) ∧ XX d 179 5 [v0, v1, v2] st (mk S (wr I a (up (I a) 22 x)) L R G) Q := r_pf i_179_2 rfl (by decide) rfl rfl rfl
theorem q_179_5 : XX d 179 5 [some (.ref a), v1, v2] st A Q ↔ XX d 179 6 [some (.ref a), v1, v2] (.ref a :: st) A Q := c_lcl i_179_5 rfl rfl
theorem q_179_6 : XX d 179 6 [v0, v1, v2] (.ref a :: st) (mk S I L R G) Q ↔ S a = some (.inr 12) ∧ XX d 179 9 [v0, v1, v2] (.int (I a 14) :: st) (mk S I L R G) Q := r_gf i_179_6 rfl (by decide) rfl
theorem q_179_9 : XX d 179 9 [v0, v1, v2] st A Q ↔ XX d 179 11 [v0, v1, v2] (.int (w 12) :: st) A Q := c_stk i_179_9 rfl
theorem q_179_11 : XX d 179 11 [v0, v1, v2] (.int y :: .int x :: st) A Q ↔ if x = y then XX d 179 14 [v0, v1, v2] st A Q else XX d 179 85 [v0, v1, v2] st A Q := b_ne i_179_11 rfl rfl rfl
theorem q_179_14 : XX d 179 14 [v0, v1, v2] st A Q ↔ XX d 179 15 [v0, v1, v2] (.int (w 1) :: st) A Q := c_stk i_179_14 rfl
theorem q_179_15 : XX d 179 15 [some (.ref b), v1, v2] (.int x :: st) A Q ↔ XX d 179 16 [some (.ref b), some (.int x), v2] st A Q := c_lcl i_179_15 rfl rfl
theorem q_179_16 : XX d 179 16 [v0, some (.int x), v2] st A Q ↔ XX d 179 17 [v0, some (.int x), v2] (.int x :: st) A Q := c_lcl i_179_16 rfl rfl
theorem q_179_17 : XX d 179 17 [v0, v1, v2] st A Q ↔ XX d 179 19 [v0, v1, v2] (.int (w 12) :: st) A Q := c_stk i_179_17 rfl
theorem q_179_19 : XX d 179 19 [v0, v1, v2] (.int y :: .int x :: st) A Q ↔ if x < y then XX d 179 22 [v0, v1, v2] st A Q else XX d 179 75 [v0, v1, v2] st A Q := b_ge i_179_19 rfl rfl rfl
theorem q_179_22 : XX d 179 22 [some (.ref a), v1, v2] st A Q ↔ XX d 179 23 [some (.ref a), v1, v2] (.ref a :: st) A Q := c_lcl i_179_22 rfl rfl
theorem q_179_23 : XX d 179 23 [v0, v1, v2] (.ref a :: st) (mk S I L R G) Q ↔ S a = some (.inr 12) ∧ XX d 179 26 [v0, v1, v2] (.ref (a + 4) :: st) (mk S I L R G) Q := r_gf i_179_23 rfl (by decide) rfl
theorem q_179_26 : XX d 179 26 [v0, some (.int x), v2] st A Q ↔ XX d 179 27 [v0, some (.int x), v2] (.int x :: st) A Q := c_lcl i_179_26 rfl rfl
theorem q_179_27 : XX d 179 27 [v0, v1, v2] st A Q ↔ XX d 179 28 [v0, v1, v2] (.int (w 1) :: st) A Q := c_stk i_179_27 rfl
theorem q_179_28 : XX d 179 28 [v0, v1, v2] (.int y :: .int x :: st) A Q ↔ XX d 179 29 [v0, v1, v2] (.int (x - y) :: st) A Q := c_stk i_179_28 rfl
theorem q_179_29 : XX d 179 29 [some (.ref a), v1, v2] st A Q ↔ XX d 179 30 [some (.ref a), v1, v2] (.ref a :: st) A Q := c_lcl i_179_29 rfl rfl
theorem q_179_30 : XX d 179 30 [v0, v1, v2] (.ref a :: st) (mk S I L R G) Q ↔ S a = some (.inr 12) ∧ XX d 179 33 [v0, v1, v2] (.ref (a + 4) :: st) (mk S I L R G) Q := r_gf i_179_30 rfl (by decide) rfl
theorem q_179_33 : XX d 179 33 [v0, some (.int x), v2] st A Q ↔ XX d 179 34 [v0, some (.int x), v2] (.int x :: st) A Q := c_lcl i_179_33 rfl rfl
theorem q_179_34 : XX d 179 34 [v0, v1, v2] (.int x :: .ref a :: st) (mk S I L R G) Q ↔ inA (S a) ok_i x ∧ XX d 179 35 [v0, v1, v2] (.int (I a (ix x)) :: st) (mk S I L R G) Q := r_ia i_179_34
theorem q_179_35 : XX d 179 35 [v0, v1, v2] (.int y :: .int x :: .ref a :: st) (mk S I L R G) Q ↔ inA (S a) ok_0 x ∧ XX d 179 36 [v0, v1, v2] st (mk S (wr I a (up (I a) (ix x) y)) L R G) Q := r_ias i_179_35
theorem q_179_36 : XX d 179 36 [v0, v1, v2] st A Q ↔ XX d 179 37 [v0, v1, v2] (.int (w 0) :: st) A Q := c_stk i_179_36 rfl
theorem q_179_37 : XX d 179 37 [v0, some (.int z), v2] (.int x :: st) A Q ↔ XX d 179 38 [v0, some (.int z), some (.int x)] st A Q := c_lcl i_179_37 rfl rfl
theorem q_179_38 : XX d 179 38 [v0, v1, some (.int x)] st A Q ↔ XX d 179 39 [v0, v1, some (.int x)] (.int x :: st) A Q := c_lcl i_179_38 rfl rfl
theorem q_179_39 : XX d 179 39 [v0, v1, v2] st A Q ↔ XX d 179 40 [v0, v1, v2] (.int (w 2) :: st) A Q := c_stk i_179_39 rfl
theorem q_179_40 : XX d 179 40 [v0, v1, v2] (.int y :: .int x :: st) A Q ↔ if x < y then XX d 179 43 [v0, v1, v2] st A Q else XX d 179 69 [v0, v1, v2] st A Q := b_ge i_179_40 rfl rfl rfl
theorem q_179_43 : XX d 179 43 [some (.ref a), v1, v2] st A Q ↔ XX d 179 44 [some (.ref a), v1, v2] (.ref a :: st) A Q := c_lcl i_179_43 rfl rfl
theorem q_179_44 : XX d 179 44 [v0, v1, v2] st A Q ↔ XX d 179 45 [v0, v1, v2] (.int (w 3) :: st) A Q := c_stk i_179_44 rfl
theorem q_179_45 : XX d 179 45 [v0, v1, v2] st A Q ↔ XX d 179 46 [v0, v1, v2] (.int (w 2) :: st) A Q := c_stk i_179_45 rfl
theorem q_179_46 : XX d 179 46 [v0, some (.int x), v2] st A Q ↔ XX d 179 47 [v0, some (.int x), v2] (.int x :: st) A Q := c_lcl i_179_46 rfl rfl
theorem q_179_47 : XX d 179 47 [v0, v1, v2] (.int y :: .int x :: st) A Q ↔ XX d 179 48 [v0, v1, v2] (.int (x * y) :: st) A Q := c_stk i_179_47 rfl
theorem q_179_48 : XX d 179 48 [v0, v1, v2] (.int y :: .int x :: st) A Q ↔ XX d 179 49 [v0, v1, v2] (.int (x + y) :: st) A Q := c_stk i_179_48 rfl
theorem q_179_49 : XX d 179 49 [v0, v1, some (.int x)] st A Q ↔ XX d 179 50 [v0, v1, some (.int x)] (.int x :: st) A Q := c_lcl i_179_49 rfl rfl
theorem q_179_50 : XX d 179 50 [v0, v1, v2] (.int y :: .int x :: st) A Q ↔ XX d 179 51 [v0, v1, v2] (.int (x + y) :: st) A Q := c_stk i_179_50 rfl
theorem q_179_51 : XX d 179 51 [v0, v1, v2] st A Q ↔ XX d 179 52 [v0, v1, v2] (.int (w 3) :: st) A Q := c_stk i_179_51 rfl
theorem q_179_52 : XX d 179 52 [v0, v1, v2] st A Q ↔ XX d 179 53 [v0, v1, v2] (.int (w 2) :: st) A Q := c_stk i_179_52 rfl
theorem q_179_53 : XX d 179 53 [v0, some (.int x), v2] st A Q ↔ XX d 179 54 [v0, some (.int x), v2] (.int x :: st) A Q := c_lcl i_179_53 rfl rfl
theorem q_179_54 : XX d 179 54 [v0, v1, v2] (.int y :: .int x :: st) A Q ↔ XX d 179 55 [v0, v1, v2] (.int (x * y) :: st) A Q := c_stk i_179_54 rfl
theorem q_179_55 : XX d 179 55 [v0, v1, v2] (.int y :: .int x :: st) A Q ↔ XX d 179 56 [v0, v1, v2] (.int (x + y) :: st) A Q := c_stk i_179_55 rfl
theorem q_179_56 : XX d 179 56 [v0, v1, v2] st A Q ↔ XX d 179 57 [v0, v1, v2] (.int (w 2) :: st) A Q := c_stk i_179_56 rfl
theorem q_179_57 : XX d 179 57 [v0, v1, v2] (.int y :: .int x :: st) A Q ↔ XX d 179 58 [v0, v1, v2] (.int (x - y) :: st) A Q := c_stk i_179_57 rfl
theorem q_179_58 : XX d 179 58 [v0, v1, some (.int x)] st A Q ↔ XX d 179 59 [v0, v1, some (.int x)] (.int x :: st) A Q := c_lcl i_179_58 rfl rfl
theorem q_179_59 : XX d 179 59 [v0, v1, v2] (.int y :: .int x :: st) A Q ↔ XX d 179 60 [v0, v1, v2] (.int (x + y) :: st) A Q := c_stk i_179_59 rfl
theorem q_179_60 : XX (d + 1) 179 60 [v0, v1, v2] [.int x2, .int x1, .ref a0] (mk S I L R G) Q ↔ S a0 = some (.inr 12) ∧ XC d 174 [.ref a0, .int x1, .int x2] (mk S I L R G) (XK (d + 1) 179 60 [v0, v1, v2] [] Q) := c_callV i_179_60 rfl rfl rfl rfl (Nat.le_of_ble_eq_true rfl) (Nat.le_of_ble_eq_true rfl) rfl
theorem q_179_63 : XX d 179 63 [v0, some (.int z), some (.int x)] st A Q ↔ XX d 179 66 [v0, some (.int z), some (.int (x + w 1))] st A Q := c_lcl i_179_63 rfl rfl
theorem q_179_66 : XX d 179 66 [v0, v1, v2] st A Q ↔ XX d 179 38 [v0, v1, v2] st A Q := c_go i_179_66 rfl rfl
theorem q_179_69 : XX d 179 69 [some (.ref b), some (.int x), v2] st A Q ↔ XX d 179 72 [some (.ref b), some (.int (x + w 1)), v2] st A Q := c_lcl i_179_69 rfl rfl
theorem q_179_72 : XX d 179 72 [v0, v1, v2] st A Q ↔ XX d 179 16 [v0, v1, v2] st A Q := c_go i_179_72 rfl rfl
theorem q_179_75 : XX d 179 75 [some (.ref a), v1, v2] st A Q ↔ XX d 179 76 [some (.ref a), v1, v2] (.ref a :: st) A Q := c_lcl i_179_75 rfl rfl
theorem q_179_76 : XX d 179 76 [v0, v1, v2] (.ref a1 :: st) A Q ↔ XX d 179 77 [v0, v1, v2] (.ref a1 :: .ref a1 :: st) A Q := c_stk i_179_76 rfl
theorem q_179_77 : XX d 179 77 [v0, v1, v2] (.ref a :: st) (mk S I L R G) Q ↔ S a = some (.inr 12) ∧ XX d 179 80 [v0, v1, v2] (.int (I a 14) :: st) (mk S I L R G) Q := r_gf i_179_77 rfl (by decide) rfl
theorem q_179_80 : XX d 179 80 [v0, v1, v2] st A Q ↔ XX d 179 81 [v0, v1, v2] (.int (w 1) :: st) A Q := c_stk i_179_80 rfl
theorem q_179_81 : XX d 179 81 [v0, v1, v2] (.int y :: .int x :: st) A Q ↔ XX d 179 82 [v0, v1, v2] (.int (x - y) :: st) A Q := c_stk i_179_81 rfl
theorem q_179_82 : XX d 179 82 [v0, v1, v2] (.int x :: .ref a :: st) (mk S I L R G) Q ↔ S a = some (.inr 12) ∧ XX d 179 85 [v0, v1, v2] st (mk S (wr I a (up (I a) 14 x)) L R G) Q := r_pf i_179_82 rfl (by decide) rfl rfl rfl
theorem q_179_85 : XX d 179 85 [some (.ref a), v1, v2] st A Q ↔ XX d 179 86 [some (.ref a), v1, v2] (.ref a :: st) A Q := c_lcl i_179_85 rfl rfl
theorem q_179_86 : XX d 179 86 [v0, v1, v2] (.ref a :: st) (mk S I L R G) Q ↔ S a = some (.inr 12) ∧ XX d 179 89 [v0, v1, v2] (.ref (a + 4) :: st) (mk S I L R G) Q := r_gf i_179_86 rfl (by decide) rfl
theorem q_179_89 : XX d 179 89 [some (.ref a), v1, v2] st A Q ↔ XX d 179 90 [some (.ref a), v1, v2] (.ref a :: st) A Q := c_lcl i_179_89 rfl rfl
theorem q_179_90 : XX d 179 90 [v0, v1, v2] (.ref a :: st) (mk S I L R G) Q ↔ S a = some (.inr 12) ∧ XX d 179 93 [v0, v1, v2] (.int (I a 14) :: st) (mk S I L R G) Q := r_gf i_179_90 rfl (by decide) rfl
theorem q_179_93 : XX d 179 93 [some (.ref a), v1, v2] st A Q ↔ XX d 179 94 [some (.ref a), v1, v2] (.ref a :: st) A Q := c_lcl i_179_93 rfl rfl
theorem q_179_94 : XX d 179 94 [v0, v1, v2] (.ref a :: st) (mk S I L R G) Q ↔ S a = some (.inr 12) ∧ XX d 179 97 [v0, v1, v2] (.int (I a 13) :: st) (mk S I L R G) Q := r_gf i_179_94 rfl (by decide) rfl
theorem q_179_97 : XX d 179 97 [v0, v1, v2] (.int y :: .int x :: .ref a :: st) (mk S I L R G) Q ↔ inA (S a) ok_0 x ∧ XX d 179 98 [v0, v1, v2] st (mk S (wr I a (up (I a) (ix x) y)) L R G) Q := r_ias i_179_97
theorem q_179_98 : XX d 179 98 [v0, v1, v2] st A Q ↔ XX d 179 99 [v0, v1, v2] (.int (w 0) :: st) A Q := c_stk i_179_98 rfl
theorem q_179_99 : XX d 179 99 [some (.ref b), v1, v2] (.int x :: st) A Q ↔ XX d 179 100 [some (.ref b), some (.int x), v2] st A Q := c_lcl i_179_99 rfl rfl
theorem q_179_100 : XX d 179 100 [v0, some (.int x), v2] st A Q ↔ XX d 179 101 [v0, some (.int x), v2] (.int x :: st) A Q := c_lcl i_179_100 rfl rfl
theorem q_179_101 : XX d 179 101 [v0, v1, v2] st A Q ↔ XX d 179 102 [v0, v1, v2] (.int (w 2) :: st) A Q := c_stk i_179_101 rfl
theorem q_179_102 : XX d 179 102 [v0, v1, v2] (.int y :: .int x :: st) A Q ↔ if x < y then XX d 179 105 [v0, v1, v2] st A Q else XX d 179 126 [v0, v1, v2] st A Q := b_ge i_179_102 rfl rfl rfl
theorem q_179_105 : XX d 179 105 [some (.ref a), v1, v2] st A Q ↔ XX d 179 106 [some (.ref a), v1, v2] (.ref a :: st) A Q := c_lcl i_179_105 rfl rfl
theorem q_179_106 : XX d 179 106 [v0, some (.int x), v2] st A Q ↔ XX d 179 107 [v0, some (.int x), v2] (.int x :: st) A Q := c_lcl i_179_106 rfl rfl
theorem q_179_107 : XX d 179 107 [v0, v1, v2] st A Q ↔ XX d 179 108 [v0, v1, v2] (.int (w 3) :: st) A Q := c_stk i_179_107 rfl
theorem q_179_108 : XX d 179 108 [v0, v1, v2] st A Q ↔ XX d 179 109 [v0, v1, v2] (.int (w 2) :: st) A Q := c_stk i_179_108 rfl
theorem q_179_109 : XX d 179 109 [some (.ref a), v1, v2] st A Q ↔ XX d 179 110 [some (.ref a), v1, v2] (.ref a :: st) A Q := c_lcl i_179_109 rfl rfl
theorem q_179_110 : XX d 179 110 [v0, v1, v2] (.ref a :: st) (mk S I L R G) Q ↔ S a = some (.inr 12) ∧ XX d 179 113 [v0, v1, v2] (.int (I a 14) :: st) (mk S I L R G) Q := r_gf i_179_110 rfl (by decide) rfl
theorem q_179_113 : XX d 179 113 [v0, v1, v2] (.int y :: .int x :: st) A Q ↔ XX d 179 114 [v0, v1, v2] (.int (x * y) :: st) A Q := c_stk i_179_113 rfl
theorem q_179_114 : XX d 179 114 [v0, v1, v2] (.int y :: .int x :: st) A Q ↔ XX d 179 115 [v0, v1, v2] (.int (x + y) :: st) A Q := c_stk i_179_114 rfl
theorem q_179_115 : XX d 179 115 [v0, some (.int x), v2] st A Q ↔ XX d 179 116 [v0, some (.int x), v2] (.int x :: st) A Q := c_lcl i_179_115 rfl rfl
theorem q_179_116 : XX d 179 116 [v0, v1, v2] (.int y :: .int x :: st) A Q ↔ XX d 179 117 [v0, v1, v2] (.int (x + y) :: st) A Q := c_stk i_179_116 rfl
theorem q_179_117 : XX (d + 1) 179 117 [v0, v1, v2] [.int x2, .int x1, .ref a0] (mk S I L R G) Q ↔ S a0 = some (.inr 12) ∧ XC d 174 [.ref a0, .int x1, .int x2] (mk S I L R G) (XK (d + 1) 179 117 [v0, v1, v2] [] Q) := c_callV i_179_117 rfl rfl rfl rfl (Nat.le_of_ble_eq_true rfl) (Nat.le_of_ble_eq_true rfl) rfl
theorem q_179_120 : XX d 179 120 [some (.ref b), some (.int x), v2] st A Q ↔ XX d 179 123 [some (.ref b), some (.int (x + w 1)), v2] st A Q := c_lcl i_179_120 rfl rfl
theorem q_179_123 : XX d 179 123 [v0, v1, v2] st A Q ↔ XX d 179 100 [v0, v1, v2] st A Q := c_go i_179_123 rfl rfl
theorem q_179_126 : XX d 179 126 [some (.ref a), v1, v2] st A Q ↔ XX d 179 127 [some (.ref a), v1, v2] (.ref a :: st) A Q := c_lcl i_179_126 rfl rfl
theorem q_179_127 : XX d 179 127 [v0, v1, v2] (.ref a1 :: st) A Q ↔ XX d 179 128 [v0, v1, v2] (.ref a1 :: .ref a1 :: st) A Q := c_stk i_179_127 rfl
theorem q_179_128 : XX d 179 128 [v0, v1, v2] (.ref a :: st) (mk S I L R G) Q ↔ S a = some (.inr 12) ∧ XX d 179 131 [v0, v1, v2] (.int (I a 14) :: st) (mk S I L R G) Q := r_gf i_179_128 rfl (by decide) rfl
theorem q_179_131 : XX d 179 131 [v0, v1, v2] st A Q ↔ XX d 179 132 [v0, v1, v2] (.int (w 1) :: st) A Q := c_stk i_179_131 rfl
theorem q_179_132 : XX d 179 132 [v0, v1, v2] (.int y :: .int x :: st) A Q ↔ XX d 179 133 [v0, v1, v2] (.int (x + y) :: st) A Q := c_stk i_179_132 rfl
theorem q_179_133 : XX d 179 133 [v0, v1, v2] (.int x :: .ref a :: st) (mk S I L R G) Q ↔ S a = some (.inr 12) ∧ XX d 179 136 [v0, v1, v2] st (mk S (wr I a (up (I a) 14 x)) L R G) Q := r_pf i_179_133 rfl (by decide) rfl rfl rfl
theorem q_179_136 : XX d 179 136 [v0, v1, v2] [] A Q ↔ Q (.inl none) A := e_retN i_179_136 rfl
theorem q_179_e : XC d 179 [.ref a0] A Q ↔ XX d 179 0 [some (.ref a0), none, none] [] A Q := Iff.rfl
theorem i_180_0 : t_ins 180 0 = some (.aload_n 0) := by decide +kernel
theorem i_180_1 : t_ins 180 1 = some (.iconst 0) := by decide +kernel
theorem i_180_2 : t_ins 180 2 = some (.putfield 121) := by decide +kernel
theorem i_180_5 : t_ins 180 5 = some (.aload_n 0) := by decide +kernel
theorem i_180_6 : t_ins 180 6 = some (.getfield 242) := by decide +kernel
theorem i_180_9 : t_ins 180 9 = some (.ifCond .ne 5) := by decide +kernel
theorem i_180_12 : t_ins 180 12 = some (.iconst (-1)) := by decide +kernel
theorem i_180_13 : t_ins 180 13 = some (.ireturn) := by decide +kernel
theorem i_180_14 : t_ins 180 14 = some (.aload_n 0) := by decide +kernel
theorem i_180_15 : t_ins 180 15 = some (.dup) := by decide +kernel
theorem i_180_16 : t_ins 180 16 = some (.getfield 242) := by decide +kernel
theorem i_180_19 : t_ins 180 19 = some (.iconst 1) := by decide +kernel
theorem i_180_20 : t_ins 180 20 = some (.isub) := by decide +kernel
theorem i_180_21 : t_ins 180 21 = some (.putfield 242) := by decide +kernel
theorem i_180_24 : t_ins 180 24 = some (.aload_n 0) := by decide +kernel
theorem i_180_25 : t_ins 180 25 = some (.iconst (-1)) := by decide +kernel
theorem i_180_26 : t_ins 180 26 = some (.putfield 51) := by decide +kernel
theorem i_180_29 : t_ins 180 29 = some (.aload_n 0) := by decide +kernel
theorem i_180_30 : t_ins 180 30 = some (.aload_n 0) := by decide +kernel
theorem i_180_31 : t_ins 180 31 = some (.getfield 23) := by decide +kernel
theorem i_180_34 : t_ins 180 34 = some (.aload_n 0) := by decide +kernel
theorem i_180_35 : t_ins 180 35 = some (.getfield 242) := by decide +kernel
theorem i_180_38 : t_ins 180 38 = some (.iaload) := by decide +kernel
theorem i_180_39 : t_ins 180 39 = some (.putfield 36) := by decide +kernel
theorem i_180_42 : t_ins 180 42 = some (.iconst 0) := by decide +kernel
theorem i_180_43 : t_ins 180 43 = some (.istore_n 1) := by decide +kernel
theorem i_180_44 : t_ins 180 44 = some (.iload_n 1) := by decide +kernel
theorem i_180_45 : t_ins 180 45 = some (.iconst 2) := by decide +kernel
theorem i_180_46 : t_ins 180 46 = some (.if_icmp .ge 24) := by decide +kernel
theorem i_180_49 : t_ins 180 49 = some (.aload_n 0) := by decide +kernel
theorem i_180_50 : t_ins 180 50 = some (.iconst 3) := by decide +kernel
theorem i_180_51 : t_ins 180 51 = some (.iconst 2) := by decide +kernel
theorem i_180_52 : t_ins 180 52 = some (.aload_n 0) := by decide +kernel
theorem i_180_53 : t_ins 180 53 = some (.getfield 242) := by decide +kernel
theorem i_180_56 : t_ins 180 56 = some (.imul) := by decide +kernel
theorem i_180_57 : t_ins 180 57 = some (.iadd) := by decide +kernel
theorem i_180_58 : t_ins 180 58 = some (.iload_n 1) := by decide +kernel
theorem i_180_59 : t_ins 180 59 = some (.iadd) := by decide +kernel
theorem i_180_60 : t_ins 180 60 = some (.iload_n 1) := by decide +kernel
theorem i_180_61 : t_ins 180 61 = some (.invokevirtual 221) := by decide +kernel
theorem i_180_64 : t_ins 180 64 = some (.iinc 1 1) := by decide +kernel
theorem i_180_67 : t_ins 180 67 = some (.goto (-23)) := by decide +kernel
theorem i_180_70 : t_ins 180 70 = some (.aload_n 0) := by decide +kernel
theorem i_180_71 : t_ins 180 71 = some (.getfield 242) := by decide +kernel
theorem i_180_74 : t_ins 180 74 = some (.ireturn) := by decide +kernel
theorem q_180_0 : XX d 180 0 [some (.ref a), v1] st A Q ↔ XX d 180 1 [some (.ref a), v1] (.ref a :: st) A Q := c_lcl i_180_0 rfl rfl
theorem q_180_1 : XX d 180 1 [v0, v1] st A Q ↔ XX d 180 2 [v0, v1] (.int (w 0) :: st) A Q := c_stk i_180_1 rfl
theorem q_180_2 : XX d 180 2 [v0, v1] (.int x :: .ref a :: st) (mk S I L R G) Q ↔ S a = some (.inr 12) ∧ XX d 180 5 [v0, v1] st (mk S (wr I a (up (I a) 0 x)) L R G) Q := r_pf i_180_2 rfl (by decide) rfl rfl rfl
theorem q_180_5 : XX d 180 5 [some (.ref a), v1] st A Q ↔ XX d 180 6 [some (.ref a), v1] (.ref a :: st) A Q := c_lcl i_180_5 rfl rfl
theorem q_180_6 : XX d 180 6 [v0, v1] (.ref a :: st) (mk S I L R G) Q ↔ S a = some (.inr 12) ∧ XX d 180 9 [v0, v1] (.int (I a 14) :: st) (mk S I L R G) Q := r_gf i_180_6 rfl (by decide) rfl
theorem q_180_9 : XX d 180 9 [v0, v1] (.int x :: st) A Q ↔ if x = w 0 then XX d 180 12 [v0, v1] st A Q else XX d 180 14 [v0, v1] st A Q := z_ne i_180_9 rfl rfl rfl
theorem q_180_12 : XX d 180 12 [v0, v1] st A Q ↔ XX d 180 13 [v0, v1] (.int (w (-1)) :: st) A Q := c_stk i_180_12 rfl
theorem q_180_13 : XX d 180 13 [v0, v1] [.int x] A Q ↔ Q (.inl (some (.int x))) A := e_retI i_180_13 rfl
theorem q_180_14 : XX d 180 14 [some (.ref a), v1] st A Q ↔ XX d 180 15 [some (.ref a), v1] (.ref a :: st) A Q := c_lcl i_180_14 rfl rfl
theorem q_180_15 : XX d 180 15 [v0, v1] (.ref a1 :: st) A Q ↔ XX d 180 16 [v0, v1] (.ref a1 :: .ref a1 :: st) A Q := c_stk i_180_15 rfl
theorem q_180_16 : XX d 180 16 [v0, v1] (.ref a :: st) (mk S I L R G) Q ↔ S a = some (.inr 12) ∧ XX d 180 19 [v0, v1] (.int (I a 14) :: st) (mk S I L R G) Q := r_gf i_180_16 rfl (by decide) rfl
theorem q_180_19 : XX d 180 19 [v0, v1] st A Q ↔ XX d 180 20 [v0, v1] (.int (w 1) :: st) A Q := c_stk i_180_19 rfl
theorem q_180_20 : XX d 180 20 [v0, v1] (.int y :: .int x :: st) A Q ↔ XX d 180 21 [v0, v1] (.int (x - y) :: st) A Q := c_stk i_180_20 rfl
theorem q_180_21 : XX d 180 21 [v0, v1] (.int x :: .ref a :: st) (mk S I L R G) Q ↔ S a = some (.inr 12) ∧ XX d 180 24 [v0, v1] st (mk S (wr I a (up (I a) 14 x)) L R G) Q := r_pf i_180_21 rfl (by decide) rfl rfl rfl
theorem q_180_24 : XX d 180 24 [some (.ref a), v1] st A Q ↔ XX d 180 25 [some (.ref a), v1] (.ref a :: st) A Q := c_lcl i_180_24 rfl rfl
theorem q_180_25 : XX d 180 25 [v0, v1] st A Q ↔ XX d 180 26 [v0, v1] (.int (w (-1)) :: st) A Q := c_stk i_180_25 rfl
theorem q_180_26 : XX d 180 26 [v0, v1] (.int x :: .ref a :: st) (mk S I L R G) Q ↔ S a = some (.inr 12) ∧ XX d 180 29 [v0, v1] st (mk S (wr I a (up (I a) 22 x)) L R G) Q := r_pf i_180_26 rfl (by decide) rfl rfl rfl
theorem q_180_29 : XX d 180 29 [some (.ref a), v1] st A Q ↔ XX d 180 30 [some (.ref a), v1] (.ref a :: st) A Q := c_lcl i_180_29 rfl rfl
theorem q_180_30 : XX d 180 30 [some (.ref a), v1] st A Q ↔ XX d 180 31 [some (.ref a), v1] (.ref a :: st) A Q := c_lcl i_180_30 rfl rfl
theorem q_180_31 : XX d 180 31 [v0, v1] (.ref a :: st) (mk S I L R G) Q ↔ S a = some (.inr 12) ∧ XX d 180 34 [v0, v1] (.ref (a + 4) :: st) (mk S I L R G) Q := r_gf i_180_31 rfl (by decide) rfl
theorem q_180_34 : XX d 180 34 [some (.ref a), v1] st A Q ↔ XX d 180 35 [some (.ref a), v1] (.ref a :: st) A Q := c_lcl i_180_34 rfl rfl
theorem q_180_35 : XX d 180 35 [v0, v1] (.ref a :: st) (mk S I L R G) Q ↔ S a = some (.inr 12) ∧ XX d 180 38 [v0, v1] (.int (I a 14) :: st) (mk S I L R G) Q := r_gf i_180_35 rfl (by decide) rfl
theorem q_180_38 : XX d 180 38 [v0, v1] (.int x :: .ref a :: st) (mk S I L R G) Q ↔ inA (S a) ok_i x ∧ XX d 180 39 [v0, v1] (.int (I a (ix x)) :: st) (mk S I L R G) Q := r_ia i_180_38
theorem q_180_39 : XX d 180 39 [v0, v1] (.int x :: .ref a :: st) (mk S I L R G) Q ↔ S a = some (.inr 12) ∧ XX d 180 42 [v0, v1] st (mk S (wr I a (up (I a) 13 x)) L R G) Q := r_pf i_180_39 rfl (by decide) rfl rfl rfl
theorem q_180_42 : XX d 180 42 [v0, v1] st A Q ↔ XX d 180 43 [v0, v1] (.int (w 0) :: st) A Q := c_stk i_180_42 rfl
theorem q_180_43 : XX d 180 43 [some (.ref b), v1] (.int x :: st) A Q ↔ XX d 180 44 [some (.ref b), some (.int x)] st A Q := c_lcl i_180_43 rfl rfl
theorem q_180_44 : XX d 180 44 [v0, some (.int x)] st A Q ↔ XX d 180 45 [v0, some (.int x)] (.int x :: st) A Q := c_lcl i_180_44 rfl rfl
theorem q_180_45 : XX d 180 45 [v0, v1] st A Q ↔ XX d 180 46 [v0, v1] (.int (w 2) :: st) A Q := c_stk i_180_45 rfl
theorem q_180_46 : XX d 180 46 [v0, v1] (.int y :: .int x :: st) A Q ↔ if x < y then XX d 180 49 [v0, v1] st A Q else XX d 180 70 [v0, v1] st A Q := b_ge i_180_46 rfl rfl rfl
theorem q_180_49 : XX d 180 49 [some (.ref a), v1] st A Q ↔ XX d 180 50 [some (.ref a), v1] (.ref a :: st) A Q := c_lcl i_180_49 rfl rfl
theorem q_180_50 : XX d 180 50 [v0, v1] st A Q ↔ XX d 180 51 [v0, v1] (.int (w 3) :: st) A Q := c_stk i_180_50 rfl
theorem q_180_51 : XX d 180 51 [v0, v1] st A Q ↔ XX d 180 52 [v0, v1] (.int (w 2) :: st) A Q := c_stk i_180_51 rfl
theorem q_180_52 : XX d 180 52 [some (.ref a), v1] st A Q ↔ XX d 180 53 [some (.ref a), v1] (.ref a :: st) A Q := c_lcl i_180_52 rfl rfl
theorem q_180_53 : XX d 180 53 [v0, v1] (.ref a :: st) (mk S I L R G) Q ↔ S a = some (.inr 12) ∧ XX d 180 56 [v0, v1] (.int (I a 14) :: st) (mk S I L R G) Q := r_gf i_180_53 rfl (by decide) rfl
theorem q_180_56 : XX d 180 56 [v0, v1] (.int y :: .int x :: st) A Q ↔ XX d 180 57 [v0, v1] (.int (x * y) :: st) A Q := c_stk i_180_56 rfl
theorem q_180_57 : XX d 180 57 [v0, v1] (.int y :: .int x :: st) A Q ↔ XX d 180 58 [v0, v1] (.int (x + y) :: st) A Q := c_stk i_180_57 rfl
theorem q_180_58 : XX d 180 58 [v0, some (.int x)] st A Q ↔ XX d 180 59 [v0, some (.int x)] (.int x :: st) A Q := c_lcl i_180_58 rfl rfl
theorem q_180_59 : XX d 180 59 [v0, v1] (.int y :: .int x :: st) A Q ↔ XX d 180 60 [v0, v1] (.int (x + y) :: st) A Q := c_stk i_180_59 rfl
theorem q_180_60 : XX d 180 60 [v0, some (.int x)] st A Q ↔ XX d 180 61 [v0, some (.int x)] (.int x :: st) A Q := c_lcl i_180_60 rfl rfl
theorem q_180_61 : XX (d + 1) 180 61 [v0, v1] [.int x2, .int x1, .ref a0] (mk S I L R G) Q ↔ S a0 = some (.inr 12) ∧ XC d 174 [.ref a0, .int x1, .int x2] (mk S I L R G) (XK (d + 1) 180 61 [v0, v1] [] Q) := c_callV i_180_61 rfl rfl rfl rfl (Nat.le_of_ble_eq_true rfl) (Nat.le_of_ble_eq_true rfl) rfl
theorem q_180_64 : XX d 180 64 [some (.ref b), some (.int x)] st A Q ↔ XX d 180 67 [some (.ref b), some (.int (x + w 1))] st A Q := c_lcl i_180_64 rfl rfl
theorem q_180_67 : XX d 180 67 [v0, v1] st A Q ↔ XX d 180 44 [v0, v1] st A Q := c_go i_180_67 rfl rfl
theorem q_180_70 : XX d 180 70 [some (.ref a), v1] st A Q ↔ XX d 180 71 [some (.ref a), v1] (.ref a :: st) A Q := c_lcl i_180_70 rfl rfl
theorem q_180_71 : XX d 180 71 [v0, v1] (.ref a :: st) (mk S I L R G) Q ↔ S a = some (.inr 12) ∧ XX d 180 74 [v0, v1] (.int (I a 14) :: st) (mk S I L R G) Q := r_gf i_180_71 rfl (by decide) rfl
theorem q_180_74 : XX d 180 74 [v0, v1] [.int x] A Q ↔ Q (.inl (some (.int x))) A := e_retI i_180_74 rfl
theorem q_180_e : XC d 180 [.ref a0] A Q ↔ XX d 180 0 [some (.ref a0), none] [] A Q := Iff.rfl
theorem i_181_0 : t_ins 181 0 = some (.aload_n 0) := by decide +kernel
theorem i_181_1 : t_ins 181 1 = some (.iconst 0) := by decide +kernel
theorem i_181_2 : t_ins 181 2 = some (.putfield 121) := by decide +kernel
theorem i_181_5 : t_ins 181 5 = some (.aload_n 0) := by decide +kernel
theorem i_181_6 : t_ins 181 6 = some (.iload_n 1) := by decide +kernel
theorem i_181_7 : t_ins 181 7 = some (.iconst 1) := by decide +kernel
theorem i_181_8 : t_ins 181 8 = some (.sipush 1000) := by decide +kernel
theorem i_181_11 : t_ins 181 11 = some (.invokestatic 230) := by decide +kernel
theorem i_181_14 : t_ins 181 14 = some (.ifCond .ne 7) := by decide +kernel
theorem i_181_17 : t_ins 181 17 = some (.iconst 1) := by decide +kernel
theorem i_181_18 : t_ins 181 18 = some (.goto 4) := by decide +kernel
theorem i_181_21 : t_ins 181 21 = some (.iconst 0) := by decide +kernel
theorem i_181_22 : t_ins 181 22 = some (.iconst 1) := by decide +kernel
theorem i_181_23 : t_ins 181 23 = some (.iconst 1) := by decide +kernel
theorem i_181_24 : t_ins 181 24 = some (.invokevirtual 234) := by decide +kernel
theorem i_181_27 : t_ins 181 27 = some (.ifCond .eq 5) := by decide +kernel
theorem i_181_30 : t_ins 181 30 = some (.iconst 0) := by decide +kernel
theorem i_181_31 : t_ins 181 31 = some (.ireturn) := by decide +kernel
theorem i_181_32 : t_ins 181 32 = some (.aload_n 0) := by decide +kernel
theorem i_181_33 : t_ins 181 33 = some (.invokevirtual 227) := by decide +kernel
theorem i_181_36 : t_ins 181 36 = some (.aload_n 0) := by decide +kernel
theorem i_181_37 : t_ins 181 37 = some (.getfield 36) := by decide +kernel
theorem i_181_40 : t_ins 181 40 = some (.istore_n 2) := by decide +kernel
theorem i_181_41 : t_ins 181 41 = some (.aload_n 0) := by decide +kernel
theorem i_181_42 : t_ins 181 42 = some (.iload_n 1) := by decide +kernel
theorem i_181_43 : t_ins 181 43 = some (.putfield 36) := by decide +kernel
theorem i_181_46 : t_ins 181 46 = some (.iload_n 2) := by decide +kernel
theorem i_181_47 : t_ins 181 47 = some (.ireturn) := by decide +kernel
theorem q_181_0 : XX d 181 0 [some (.ref a), v1, v2] st A Q ↔ XX d 181 1 [some (.ref a), v1, v2] (.ref a :: st) A Q := c_lcl i_181_0 rfl rfl
theorem q_181_1 : XX d 181 1 [v0, v1, v2] st A Q ↔ XX d 181 2 [v0, v1, v2] (.int (w 0) :: st) A Q := c_stk i_181_1 rfl
theorem q_181_2 : XX d 181 2 [v0, v1, v2] (.int x :: .ref a :: st) (mk S I L R G) Q ↔ S a = some (.inr 12) ∧ XX d 181 5 [v0, v1, v2] st (mk S (wr I a (up (I a) 0 x)) L R G) Q := r_pf i_181_2 rfl (by decide) rfl rfl rfl
theorem q_181_5 : XX d 181 5 [some (.ref a), v1, v2] st A Q ↔ XX d 181 6 [some (.ref a), v1, v2] (.ref a :: st) A Q := c_lcl i_181_5 rfl rfl
theorem q_181_6 : XX d 181 6 [v0, some (.int x), v2] st A Q ↔ XX d 181 7 [v0, some (.int x), v2] (.int x :: st) A Q := c_lcl i_181_6 rfl rfl
theorem q_181_7 : XX d 181 7 [v0, v1, v2] st A Q ↔ XX d 181 8 [v0, v1, v2] (.int (w 1) :: st) A Q := c_stk i_181_7 rfl
theorem q_181_8 : XX d 181 8 [v0, v1, v2] st A Q ↔ XX d 181 11 [v0, v1, v2] (.int (w 1000) :: st) A Q := c_stk i_181_8 rfl
theorem q_181_11 : XX (d + 1) 181 11 [v0, v1, v2] [.int x2, .int x1, .int x0, .ref a3] A Q ↔ XC d 155 [.int x0, .int x1, .int x2] A (XK (d + 1) 181 11 [v0, v1, v2] [.ref a3] Q) := c_callS i_181_11 rfl rfl rfl rfl (Nat.le_of_ble_eq_true rfl) (Nat.le_of_ble_eq_true rfl)
theorem q_181_14 : XX d 181 14 [v0, v1, v2] (.int x :: st) A Q ↔ if x = w 0 then XX d 181 17 [v0, v1, v2] st A Q else XX d 181 21 [v0, v1, v2] st A Q := z_ne i_181_14 rfl rfl rfl
theorem q_181_17 : XX d 181 17 [v0, v1, v2] st A Q ↔ XX d 181 18 [v0, v1, v2] (.int (w 1) :: st) A Q := c_stk i_181_17 rfl
theorem q_181_18 : XX d 181 18 [v0, v1, v2] st A Q ↔ XX d 181 22 [v0, v1, v2] st A Q := c_go i_181_18 rfl rfl
theorem q_181_21 : XX d 181 21 [v0, v1, v2] st A Q ↔ XX d 181 22 [v0, v1, v2] (.int (w 0) :: st) A Q := c_stk i_181_21 rfl
theorem q_181_22 : XX d 181 22 [v0, v1, v2] st A Q ↔ XX d 181 23 [v0, v1, v2] (.int (w 1) :: st) A Q := c_stk i_181_22 rfl
theorem q_181_23 : XX d 181 23 [v0, v1, v2] st A Q ↔ XX d 181 24 [v0, v1, v2] (.int (w 1) :: st) A Q := c_stk i_181_23 rfl
theorem q_181_24 : XX (d + 1) 181 24 [v0, v1, v2] [.int x3, .int x2, .int x1, .ref a0] (mk S I L R G) Q ↔ S a0 = some (.inr 12) ∧ XC d 154 [.ref a0, .int x1, .int x2, .int x3] (mk S I L R G) (XK (d + 1) 181 24 [v0, v1, v2] [] Q) := c_callV i_181_24 rfl rfl rfl rfl (Nat.le_of_ble_eq_true rfl) (Nat.le_of_ble_eq_true rfl) rfl
theorem q_181_27 : XX d 181 27 [v0, v1, v2] (.int x :: st) A Q ↔ if x = w 0 then XX d 181 32 [v0, v1, v2] st A Q else XX d 181 30 [v0, v1, v2] st A Q := z_eq i_181_27 rfl rfl rfl
theorem q_181_30 : XX d 181 30 [v0, v1, v2] st A Q ↔ XX d 181 31 [v0, v1, v2] (.int (w 0) :: st) A Q := c_stk i_181_30 rfl
theorem q_181_31 : XX d 181 31 [v0, v1, v2] [.int x] A Q ↔ Q (.inl (some (.int x))) A := e_retI i_181_31 rfl
theorem q_181_32 : XX d 181 32 [some (.ref a), v1, v2] st A Q ↔ XX d 181 33 [some (.ref a), v1, v2] (.ref a :: st) A Q := c_lcl i_181_32 rfl rfl
theorem q_181_33 : XX (d + 1) 181 33 [v0, v1, v2] [.ref a0] (mk S I L R G) Q ↔ S a0 = some (.inr 12) ∧ XC d 179 [.ref a0] (mk S I L R G) (XK (d + 1) 181 33 [v0, v1, v2] [] Q) := c_callV i_181_33 rfl rfl rfl rfl (Nat.le_of_ble_eq_true rfl) (Nat.le_of_ble_eq_true rfl) rfl
theorem q_181_36 : XX d 181 36 [some (.ref a), v1, v2] st A Q ↔ XX d 181 37 [some (.ref a), v1, v2] (.ref a :: st) A Q := c_lcl i_181_36 rfl rfl
theorem q_181_37 : XX d 181 37 [v0, v1, v2] (.ref a :: st) (mk S I L R G) Q ↔ S a = some (.inr 12) ∧ XX d 181 40 [v0, v1, v2] (.int (I a 13) :: st) (mk S I L R G) Q := r_gf i_181_37 rfl (by decide) rfl
theorem q_181_40 : XX d 181 40 [v0, some (.int z), v2] (.int x :: st) A Q ↔ XX d 181 41 [v0, some (.int z), some (.int x)] st A Q := c_lcl i_181_40 rfl rfl
theorem q_181_41 : XX d 181 41 [some (.ref a), v1, v2] st A Q ↔ XX d 181 42 [some (.ref a), v1, v2] (.ref a :: st) A Q := c_lcl i_181_41 rfl rfl
theorem q_181_42 : XX d 181 42 [v0, some (.int x), v2] st A Q ↔ XX d 181 43 [v0, some (.int x), v2] (.int x :: st) A Q := c_lcl i_181_42 rfl rfl
theorem q_181_43 : XX d 181 43 [v0, v1, v2] (.int x :: .ref a :: st) (mk S I L R G) Q ↔ S a = some (.inr 12) ∧ XX d 181 46 [v0, v1, v2] st (mk S (wr I a (up (I a) 13 x)) L R G) Q := r_pf i_181_43 rfl (by decide) rfl rfl rfl
theorem q_181_46 : XX d 181 46 [v0, v1, some (.int x)] st A Q ↔ XX d 181 47 [v0, v1, some (.int x)] (.int x :: st) A Q := c_lcl i_181_46 rfl rfl
theorem q_181_47 : XX d 181 47 [v0, v1, v2] [.int x] A Q ↔ Q (.inl (some (.int x))) A := e_retI i_181_47 rfl
theorem q_181_e : XC d 181 [.ref a0, .int x1] A Q ↔ XX d 181 0 [some (.ref a0), some (.int x1), none] [] A Q := Iff.rfl
theorem i_182_0 : t_ins 182 0 = some (.iload_n 0) := by decide +kernel
theorem i_182_1 : t_ins 182 1 = some (.iconst 0) := by decide +kernel
theorem i_182_2 : t_ins 182 2 = some (.iconst 1) := by decide +kernel
theorem i_182_3 : t_ins 182 3 = some (.invokestatic 230) := by decide +kernel
theorem i_182_6 : t_ins 182 6 = some (.ireturn) := by decide +kernel
theorem q_182_0 : XX d 182 0 [some (.int x)] st A Q ↔ XX d 182 1 [some (.int x)] (.int x :: st) A Q := c_lcl i_182_0 rfl rfl
theorem q_182_1 : XX d 182 1 [v0] st A Q ↔ XX d 182 2 [v0] (.int (w 0) :: st) A Q := c_stk i_182_1 rfl
theorem q_182_2 : XX d 182 2 [v0] st A Q ↔ XX d 182 3 [v0] (.int (w 1) :: st) A Q := c_stk i_182_2 rfl
theorem q_182_3 : XX (d + 1) 182 3 [v0] [.int x2, .int x1, .int x0] A Q ↔ XC d 155 [.int x0, .int x1, .int x2] A (XK (d + 1) 182 3 [v0] [] Q) := c_callS i_182_3 rfl rfl rfl rfl (Nat.le_of_ble_eq_true rfl) (Nat.le_of_ble_eq_true rfl)
theorem q_182_6 : XX d 182 6 [v0] [.int x] A Q ↔ (x = w 0 ∨ x = w 1) ∧ Q (.inl (some (.int x))) A := e_retZ i_182_6 rfl
theorem q_182_e : XC d 182 [.int x0] A Q ↔ XX d 182 0 [some (.int x0)] [] A Q := Iff.rfl
theorem i_183_0 : t_ins 183 0 = some (.iload_n 1) := by decide +kernel
theorem i_183_1 : t_ins 183 1 = some (.invokestatic 245) := by decide +kernel
theorem i_183_4 : t_ins 183 4 = some (.ifCond .eq 23) := by decide +kernel
theorem i_183_7 : t_ins 183 7 = some (.iload_n 2) := by decide +kernel
theorem i_183_8 : t_ins 183 8 = some (.iconst 0) := by decide +kernel
theorem i_183_9 : t_ins 183 9 = some (.aload_n 0) := by decide +kernel
theorem i_183_10 : t_ins 183 10 = some (.getfield 20) := by decide +kernel
theorem i_183_13 : t_ins 183 13 = some (.iload_n 1) := by decide +kernel
theorem i_183_14 : t_ins 183 14 = some (.iaload) := by decide +kernel
theorem i_183_15 : t_ins 183 15 = some (.iconst 1) := by decide +kernel
theorem i_183_16 : t_ins 183 16 = some (.isub) := by decide +kernel
theorem i_183_17 : t_ins 183 17 = some (.invokestatic 230) := by decide +kernel
theorem i_183_20 : t_ins 183 20 = some (.ifCond .eq 7) := by decide +kernel
theorem i_183_23 : t_ins 183 23 = some (.iconst 1) := by decide +kernel
theorem i_183_24 : t_ins 183 24 = some (.goto 4) := by decide +kernel
theorem i_183_27 : t_ins 183 27 = some (.iconst 0) := by decide +kernel
theorem i_183_28 : t_ins 183 28 = some (.ireturn) := by decide +kernel
theorem q_183_0 : XX d 183 0 [v0, some (.int x), v2] st A Q ↔ XX d 183 1 [v0, some (.int x), v2] (.int x :: st) A Q := c_lcl i_183_0 rfl rfl
theorem q_183_1 : XX (d + 1) 183 1 [v0, v1, v2] [.int x0] A Q ↔ XC d 182 [.int x0] A (XK (d + 1) 183 1 [v0, v1, v2] [] Q) := c_callS i_183_1 rfl rfl rfl rfl (Nat.le_of_ble_eq_true rfl) (Nat.le_of_ble_eq_true rfl)
theorem q_183_4 : XX d 183 4 [v0, v1, v2] (.int x :: st) A Q ↔ if x = w 0 then XX d 183 27 [v0, v1, v2] st A Q else XX d 183 7 [v0, v1, v2] st A Q := z_eq i_183_4 rfl rfl rfl
theorem q_183_7 : XX d 183 7 [v0, v1, some (.int x)] st A Q ↔ XX d 183 8 [v0, v1, some (.int x)] (.int x :: st) A Q := c_lcl i_183_7 rfl rfl
theorem q_183_8 : XX d 183 8 [v0, v1, v2] st A Q ↔ XX d 183 9 [v0, v1, v2] (.int (w 0) :: st) A Q := c_stk i_183_8 rfl
theorem q_183_9 : XX d 183 9 [some (.ref a), v1, v2] st A Q ↔ XX d 183 10 [some (.ref a), v1, v2] (.ref a :: st) A Q := c_lcl i_183_9 rfl rfl
theorem q_183_10 : XX d 183 10 [v0, v1, v2] (.ref a :: st) (mk S I L R G) Q ↔ S a = some (.inr 12) ∧ XX d 183 13 [v0, v1, v2] (.ref (a + 3) :: st) (mk S I L R G) Q := r_gf i_183_10 rfl (by decide) rfl
theorem q_183_13 : XX d 183 13 [v0, some (.int x), v2] st A Q ↔ XX d 183 14 [v0, some (.int x), v2] (.int x :: st) A Q := c_lcl i_183_13 rfl rfl
theorem q_183_14 : XX d 183 14 [v0, v1, v2] (.int x :: .ref a :: st) (mk S I L R G) Q ↔ inA (S a) ok_i x ∧ XX d 183 15 [v0, v1, v2] (.int (I a (ix x)) :: st) (mk S I L R G) Q := r_ia i_183_14
theorem q_183_15 : XX d 183 15 [v0, v1, v2] st A Q ↔ XX d 183 16 [v0, v1, v2] (.int (w 1) :: st) A Q := c_stk i_183_15 rfl
theorem q_183_16 : XX d 183 16 [v0, v1, v2] (.int y :: .int x :: st) A Q ↔ XX d 183 17 [v0, v1, v2] (.int (x - y) :: st) A Q := c_stk i_183_16 rfl
theorem q_183_17 : XX (d + 1) 183 17 [v0, v1, v2] [.int x2, .int x1, .int x0] A Q ↔ XC d 155 [.int x0, .int x1, .int x2] A (XK (d + 1) 183 17 [v0, v1, v2] [] Q) := c_callS i_183_17 rfl rfl rfl rfl (Nat.le_of_ble_eq_true rfl) (Nat.le_of_ble_eq_true rfl)
theorem q_183_20 : XX d 183 20 [v0, v1, v2] (.int x :: st) A Q ↔ if x = w 0 then XX d 183 27 [v0, v1, v2] st A Q else XX d 183 23 [v0, v1, v2] st A Q := z_eq i_183_20 rfl rfl rfl
theorem q_183_23 : XX d 183 23 [v0, v1, v2] st A Q ↔ XX d 183 24 [v0, v1, v2] (.int (w 1) :: st) A Q := c_stk i_183_23 rfl
theorem q_183_24 : XX d 183 24 [v0, v1, v2] st A Q ↔ XX d 183 28 [v0, v1, v2] st A Q := c_go i_183_24 rfl rfl
theorem q_183_27 : XX d 183 27 [v0, v1, v2] st A Q ↔ XX d 183 28 [v0, v1, v2] (.int (w 0) :: st) A Q := c_stk i_183_27 rfl
theorem q_183_28 : XX d 183 28 [v0, v1, v2] [.int x] A Q ↔ (x = w 0 ∨ x = w 1) ∧ Q (.inl (some (.int x))) A := e_retZ i_183_28 rfl
theorem q_183_e : XC d 183 [.ref a0, .int x1, .int x2] A Q ↔ XX d 183 0 [some (.ref a0), some (.int x1), some (.int x2)] [] A Q := Iff.rfl
theorem i_184_0 : t_ins 184 0 = some (.iload_n 2) := by decide +kernel
theorem i_184_1 : t_ins 184 1 = some (.istore_n 3) := by decide +kernel
theorem i_184_2 : t_ins 184 2 = some (.iload_n 3) := by decide +kernel
theorem i_184_3 : t_ins 184 3 = some (.iconst 1) := by decide +kernel
theorem i_184_4 : t_ins 184 4 = some (.iadd) := by decide +kernel
theorem i_184_5 : t_ins 184 5 = some (.aload_n 0) := by decide +kernel
theorem i_184_6 : t_ins 184 6 = some (.getfield 20) := by decide +kernel
theorem i_184_9 : t_ins 184 9 = some (.iload_n 1) := by decide +kernel
theorem i_184_10 : t_ins 184 10 = some (.iaload) := by decide +kernel
theorem i_184_11 : t_ins 184 11 = some (.if_icmp .ge 19) := by decide +kernel
theorem i_184_14 : t_ins 184 14 = some (.aload_n 0) := by decide +kernel
theorem i_184_15 : t_ins 184 15 = some (.iload_n 1) := by decide +kernel
theorem i_184_16 : t_ins 184 16 = some (.iload_n 3) := by decide +kernel
theorem i_184_17 : t_ins 184 17 = some (.iconst 1) := by decide +kernel
theorem i_184_18 : t_ins 184 18 = some (.iadd) := by decide +kernel
theorem i_184_19 : t_ins 184 19 = some (.iload_n 1) := by decide +kernel
theorem i_184_20 : t_ins 184 20 = some (.iload_n 3) := by decide +kernel
theorem i_184_21 : t_ins 184 21 = some (.invokevirtual 215) := by decide +kernel
theorem i_184_24 : t_ins 184 24 = some (.iinc 3 1) := by decide +kernel
theorem i_184_27 : t_ins 184 27 = some (.goto (-25)) := by decide +kernel
theorem i_184_30 : t_ins 184 30 = some (.aload_n 0) := by decide +kernel
theorem i_184_31 : t_ins 184 31 = some (.getfield 20) := by decide +kernel
theorem i_184_34 : t_ins 184 34 = some (.iload_n 1) := by decide +kernel
theorem i_184_35 : t_ins 184 35 = some (.dup2) := by decide +kernel
theorem i_184_36 : t_ins 184 36 = some (.iaload) := by decide +kernel
theorem i_184_37 : t_ins 184 37 = some (.iconst 1) := by decide +kernel
theorem i_184_38 : t_ins 184 38 = some (.isub) := by decide +kernel
theorem i_184_39 : t_ins 184 39 = some (.iastore) := by decide +kernel
theorem i_184_40 : t_ins 184 40 = some (.return_) := by decide +kernel
theorem q_184_0 : XX d 184 0 [v0, v1, some (.int x), v3] st A Q ↔ XX d 184 1 [v0, v1, some (.int x), v3] (.int x :: st) A Q := c_lcl i_184_0 rfl rfl
theorem q_184_1 : XX d 184 1 [v0, v1, some (.int z), v3] (.int x :: st) A Q ↔ XX d 184 2 [v0, v1, some (.int z), some (.int x)] st A Q := c_lcl i_184_1 rfl rfl
theorem q_184_2 : XX d 184 2 [v0, v1, v2, some (.int x)] st A Q ↔ XX d 184 3 [v0, v1, v2, some (.int x)] (.int x :: st) A Q := c_lcl i_184_2 rfl rfl
theorem q_184_3 : XX d 184 3 [v0, v1, v2, v3] st A Q ↔ XX d 184 4 [v0, v1, v2, v3] (.int (w 1) :: st) A Q := c_stk i_184_3 rfl
theorem q_184_4 : XX d 184 4 [v0, v1, v2, v3] (.int y :: .int x :: st) A Q ↔ XX d 184 5 [v0, v1, v2, v3] (.int (x + y) :: st) A Q := c_stk i_184_4 rfl
theorem q_184_5 : XX d 184 5 [some (.ref a), v1, v2, v3] st A Q ↔ XX d 184 6 [some (.ref a), v1, v2, v3] (.ref a :: st) A Q := c_lcl i_184_5 rfl rfl
theorem q_184_6 : XX d 184 6 [v0, v1, v2, v3] (.ref a :: st) (mk S I L R G) Q ↔ S a = some (.inr 12) ∧ XX d 184 9 [v0, v1, v2, v3] (.ref (a + 3) :: st) (mk S I L R G) Q := r_gf i_184_6 rfl (by decide) rfl
theorem q_184_9 : XX d 184 9 [v0, some (.int x), v2, v3] st A Q ↔ XX d 184 10 [v0, some (.int x), v2, v3] (.int x :: st) A Q := c_lcl i_184_9 rfl rfl
theorem q_184_10 : XX d 184 10 [v0, v1, v2, v3] (.int x :: .ref a :: st) (mk S I L R G) Q ↔ inA (S a) ok_i x ∧ XX d 184 11 [v0, v1, v2, v3] (.int (I a (ix x)) :: st) (mk S I L R G) Q := r_ia i_184_10
theorem q_184_11 : XX d 184 11 [v0, v1, v2, v3] (.int y :: .int x :: st) A Q ↔ if x < y then XX d 184 14 [v0, v1, v2, v3] st A Q else XX d 184 30 [v0, v1, v2, v3] st A Q := b_ge i_184_11 rfl rfl rfl
theorem q_184_14 : XX d 184 14 [some (.ref a), v1, v2, v3] st A Q ↔ XX d 184 15 [some (.ref a), v1, v2, v3] (.ref a :: st) A Q := c_lcl i_184_14 rfl rfl
theorem q_184_15 : XX d 184 15 [v0, some (.int x), v2, v3] st A Q ↔ XX d 184 16 [v0, some (.int x), v2, v3] (.int x :: st) A Q := c_lcl i_184_15 rfl rfl
theorem q_184_16 : XX d 184 16 [v0, v1, v2, some (.int x)] st A Q ↔ XX d 184 17 [v0, v1, v2, some (.int x)] (.int x :: st) A Q := c_lcl i_184_16 rfl rfl
theorem q_184_17 : XX d 184 17 [v0, v1, v2, v3] st A Q ↔ XX d 184 18 [v0, v1, v2, v3] (.int (w 1) :: st) A Q := c_stk i_184_17 rfl
theorem q_184_18 : XX d 184 18 [v0, v1, v2, v3] (.int y :: .int x :: st) A Q ↔ XX d 184 19 [v0, v1, v2, v3] (.int (x + y) :: st) A Q := c_stk i_184_18 rfl
theorem q_184_19 : XX d 184 19 [v0, some (.int x), v2, v3] st A Q ↔ XX d 184 20 [v0, some (.int x), v2, v3] (.int x :: st) A Q := c_lcl i_184_19 rfl rfl
theorem q_184_20 : XX d 184 20 [v0, v1, v2, some (.int x)] st A Q ↔ XX d 184 21 [v0, v1, v2, some (.int x)] (.int x :: st) A Q := c_lcl i_184_20 rfl rfl
theorem q_184_21 : XX (d + 1) 184 21 [v0, v1, v2, v3] [.int x4, .int x3, .int x2, .int x1, .ref a0] (mk S I L R G) Q ↔ S a0 = some (.inr 12) ∧ XC d 173 [.ref a0, .int x1, .int x2, .int x3, .int x4] (mk S I L R G) (XK (d + 1) 184 21 [v0, v1, v2, v3] [] Q) := c_callV i_184_21 rfl rfl rfl rfl (Nat.le_of_ble_eq_true rfl) (Nat.le_of_ble_eq_true rfl) rfl
theorem q_184_24 : XX d 184 24 [v0, v1, some (.int z), some (.int x)] st A Q ↔ XX d 184 27 [v0, v1, some (.int z), some (.int (x + w 1))] st A Q := c_lcl i_184_24 rfl rfl
theorem q_184_27 : XX d 184 27 [v0, v1, v2, v3] st A Q ↔ XX d 184 2 [v0, v1, v2, v3] st A Q := c_go i_184_27 rfl rfl
theorem q_184_30 : XX d 184 30 [some (.ref a), v1, v2, v3] st A Q ↔ XX d 184 31 [some (.ref a), v1, v2, v3] (.ref a :: st) A Q := c_lcl i_184_30 rfl rfl
theorem q_184_31 : XX d 184 31 [v0, v1, v2, v3] (.ref a :: st) (mk S I L R G) Q ↔ S a = some (.inr 12) ∧ XX d 184 34 [v0, v1, v2, v3] (.ref (a + 3) :: st) (mk S I L R G) Q := r_gf i_184_31 rfl (by decide) rfl
theorem q_184_34 : XX d 184 34 [v0, some (.int x), v2, v3] st A Q ↔ XX d 184 35 [v0, some (.int x), v2, v3] (.int x :: st) A Q := c_lcl i_184_34 rfl rfl
theorem q_184_35 : XX d 184 35 [v0, v1, v2, v3] (.int x1 :: .ref a2 :: st) A Q ↔ XX d 184 36 [v0, v1, v2, v3] (.int x1 :: .ref a2 :: .int x1 :: .ref a2 :: st) A Q := c_stk i_184_35 rfl
theorem q_184_36 : XX d 184 36 [v0, v1, v2, v3] (.int x :: .ref a :: st) (mk S I L R G) Q ↔ inA (S a) ok_i x ∧ XX d 184 37 [v0, v1, v2, v3] (.int (I a (ix x)) :: st) (mk S I L R G) Q := r_ia i_184_36
theorem q_184_37 : XX d 184 37 [v0, v1, v2, v3] st A Q ↔ XX d 184 38 [v0, v1, v2, v3] (.int (w 1) :: st) A Q := c_stk i_184_37 rfl
theorem q_184_38 : XX d 184 38 [v0, v1, v2, v3] (.int y :: .int x :: st) A Q ↔ XX d 184 39 [v0, v1, v2, v3] (.int (x - y) :: st) A Q := c_stk i_184_38 rfl
theorem q_184_39 : XX d 184 39 [v0, v1, v2, v3] (.int y :: .int x :: .ref a :: st) (mk S I L R G) Q ↔ inA (S a) ok_0 x ∧ XX d 184 40 [v0, v1, v2, v3] st (mk S (wr I a (up (I a) (ix x) y)) L R G) Q := r_ias i_184_39
theorem q_184_40 : XX d 184 40 [v0, v1, v2, v3] [] A Q ↔ Q (.inl none) A := e_retN i_184_40 rfl
theorem q_184_e : XC d 184 [.ref a0, .int x1, .int x2] A Q ↔ XX d 184 0 [some (.ref a0), some (.int x1), some (.int x2), none] [] A Q := Iff.rfl
theorem i_185_0 : t_ins 185 0 = some (.aload_n 0) := by decide +kernel
theorem i_185_1 : t_ins 185 1 = some (.iconst 0) := by decide +kernel
theorem i_185_2 : t_ins 185 2 = some (.putfield 121) := by decide +kernel
theorem i_185_5 : t_ins 185 5 = some (.aload_n 0) := by decide +kernel
theorem i_185_6 : t_ins 185 6 = some (.aload_n 0) := by decide +kernel
theorem i_185_7 : t_ins 185 7 = some (.iload_n 1) := by decide +kernel
theorem i_185_8 : t_ins 185 8 = some (.iload_n 2) := by decide +kernel
theorem i_185_9 : t_ins 185 9 = some (.invokevirtual 248) := by decide +kernel
theorem i_185_12 : t_ins 185 12 = some (.ifCond .ne 7) := by decide +kernel
theorem i_185_15 : t_ins 185 15 = some (.iconst 1) := by decide +kernel
theorem i_185_16 : t_ins 185 16 = some (.goto 4) := by decide +kernel
theorem i_185_19 : t_ins 185 19 = some (.iconst 0) := by decide +kernel
theorem i_185_20 : t_ins 185 20 = some (.iconst 1) := by decide +kernel
theorem i_185_21 : t_ins 185 21 = some (.iconst 0) := by decide +kernel
theorem i_185_22 : t_ins 185 22 = some (.invokevirtual 234) := by decide +kernel
theorem i_185_25 : t_ins 185 25 = some (.ifCond .eq 5) := by decide +kernel
theorem i_185_28 : t_ins 185 28 = some (.iconst 0) := by decide +kernel
theorem i_185_29 : t_ins 185 29 = some (.ireturn) := by decide +kernel
theorem i_185_30 : t_ins 185 30 = some (.aload_n 0) := by decide +kernel
theorem i_185_31 : t_ins 185 31 = some (.invokevirtual 227) := by decide +kernel
theorem i_185_34 : t_ins 185 34 = some (.aload_n 0) := by decide +kernel
theorem i_185_35 : t_ins 185 35 = some (.iload_n 1) := by decide +kernel
theorem i_185_36 : t_ins 185 36 = some (.iload_n 2) := by decide +kernel
theorem i_185_37 : t_ins 185 37 = some (.invokevirtual 252) := by decide +kernel
theorem i_185_40 : t_ins 185 40 = some (.aload_n 0) := by decide +kernel
theorem i_185_41 : t_ins 185 41 = some (.getfield 20) := by decide +kernel
theorem i_185_44 : t_ins 185 44 = some (.iload_n 1) := by decide +kernel
theorem i_185_45 : t_ins 185 45 = some (.iaload) := by decide +kernel
theorem i_185_46 : t_ins 185 46 = some (.ireturn) := by decide +kernel
theorem q_185_0 : XX d 185 0 [some (.ref a), v1, v2] st A Q ↔ XX d 185 1 [some (.ref a), v1, v2] (.ref a :: st) A Q := c_lcl i_185_0 rfl rfl
theorem q_185_1 : XX d 185 1 [v0, v1, v2] st A Q ↔ XX d 185 2 [v0, v1, v2] (.int (w 0) :: st) A Q := c_stk i_185_1 rfl
theorem q_185_2 : XX d 185 2 [v0, v1, v2] (.int x :: .ref a :: st) (mk S I L R G) Q ↔ S a = some (.inr 12) ∧ XX d 185 5 [v0, v1, v2] st (mk S (wr I a (up (I a) 0 x)) L R G) Q := r_pf i_185_2 rfl (by decide) rfl rfl rfl
theorem q_185_5 : XX d 185 5 [some (.ref a), v1, v2] st A Q ↔ XX d 185 6 [some (.ref a), v1, v2] (.ref a :: st) A Q := c_lcl i_185_5 rfl rfl
theorem q_185_6 : XX d 185 6 [some (.ref a), v1, v2] st A Q ↔ XX d 185 7 [some (.ref a), v1, v2] (.ref a :: st) A Q := c_lcl i_185_6 rfl rfl
theorem q_185_7 : XX d 185 7 [v0, some (.int x), v2] st A Q ↔ XX d 185 8 [v0, some (.int x), v2] (.int x :: st) A Q := c_lcl i_185_7 rfl rfl
theorem q_185_8 : XX d 185 8 [v0, v1, some (.int x)] st A Q ↔ XX d 185 9 [v0, v1, some (.int x)] (.int x :: st) A Q := c_lcl i_185_8 rfl rfl
theorem q_185_9 : XX (d + 1) 185 9 [v0, v1, v2] [.int x2, .int x1, .ref a0, .ref a3] (mk S I L R G) Q ↔ S a0 = some (.inr 12) ∧ XC d 183 [.ref a0, .int x1, .int x2] (mk S I L R G) (XK (d + 1) 185 9 [v0, v1, v2] [.ref a3] Q) := c_callV i_185_9 rfl rfl rfl rfl (Nat.le_of_ble_eq_true rfl) (Nat.le_of_ble_eq_true rfl) rfl
theorem q_185_12 : XX d 185 12 [v0, v1, v2] (.int x :: st) A Q ↔ if x = w 0 then XX d 185 15 [v0, v1, v2] st A Q else XX d 185 19 [v0, v1, v2] st A Q := z_ne i_185_12 rfl rfl rfl
theorem q_185_15 : XX d 185 15 [v0, v1, v2] st A Q ↔ XX d 185 16 [v0, v1, v2] (.int (w 1) :: st) A Q := c_stk i_185_15 rfl
theorem q_185_16 : XX d 185 16 [v0, v1, v2] st A Q ↔ XX d 185 20 [v0, v1, v2] st A Q := c_go i_185_16 rfl rfl
theorem q_185_19 : XX d 185 19 [v0, v1, v2] st A Q ↔ XX d 185 20 [v0, v1, v2] (.int (w 0) :: st) A Q := c_stk i_185_19 rfl
theorem q_185_20 : XX d 185 20 [v0, v1, v2] st A Q ↔ XX d 185 21 [v0, v1, v2] (.int (w 1) :: st) A Q := c_stk i_185_20 rfl
theorem q_185_21 : XX d 185 21 [v0, v1, v2] st A Q ↔ XX d 185 22 [v0, v1, v2] (.int (w 0) :: st) A Q := c_stk i_185_21 rfl
theorem q_185_22 : XX (d + 1) 185 22 [v0, v1, v2] [.int x3, .int x2, .int x1, .ref a0] (mk S I L R G) Q ↔ S a0 = some (.inr 12) ∧ XC d 154 [.ref a0, .int x1, .int x2, .int x3] (mk S I L R G) (XK (d + 1) 185 22 [v0, v1, v2] [] Q) := c_callV i_185_22 rfl rfl rfl rfl (Nat.le_of_ble_eq_true rfl) (Nat.le_of_ble_eq_true rfl) rfl
theorem q_185_25 : XX d 185 25 [v0, v1, v2] (.int x :: st) A Q ↔ if x = w 0 then XX d 185 30 [v0, v1, v2] st A Q else XX d 185 28 [v0, v1, v2] st A Q := z_eq i_185_25 rfl rfl rfl
theorem q_185_28 : XX d 185 28 [v0, v1, v2] st A Q ↔ XX d 185 29 [v0, v1, v2] (.int (w 0) :: st) A Q := c_stk i_185_28 rfl
theorem q_185_29 : XX d 185 29 [v0, v1, v2] [.int x] A Q ↔ Q (.inl (some (.int x))) A := e_retI i_185_29 rfl
theorem q_185_30 : XX d 185 30 [some (.ref a), v1, v2] st A Q ↔ XX d 185 31 [some (.ref a), v1, v2] (.ref a :: st) A Q := c_lcl i_185_30 rfl rfl
theorem q_185_31 : XX (d + 1) 185 31 [v0, v1, v2] [.ref a0] (mk S I L R G) Q ↔ S a0 = some (.inr 12) ∧ XC d 179 [.ref a0] (mk S I L R G) (XK (d + 1) 185 31 [v0, v1, v2] [] Q) := c_callV i_185_31 rfl rfl rfl rfl (Nat.le_of_ble_eq_true rfl) (Nat.le_of_ble_eq_true rfl) rfl
theorem q_185_34 : XX d 185 34 [some (.ref a), v1, v2] st A Q ↔ XX d 185 35 [some (.ref a), v1, v2] (.ref a :: st) A Q := c_lcl i_185_34 rfl rfl
theorem q_185_35 : XX d 185 35 [v0, some (.int x), v2] st A Q ↔ XX d 185 36 [v0, some (.int x), v2] (.int x :: st) A Q := c_lcl i_185_35 rfl rfl
theorem q_185_36 : XX d 185 36 [v0, v1, some (.int x)] st A Q ↔ XX d 185 37 [v0, v1, some (.int x)] (.int x :: st) A Q := c_lcl i_185_36 rfl rfl
theorem q_185_37 : XX (d + 1) 185 37 [v0, v1, v2] [.int x2, .int x1, .ref a0] (mk S I L R G) Q ↔ S a0 = some (.inr 12) ∧ XC d 184 [.ref a0, .int x1, .int x2] (mk S I L R G) (XK (d + 1) 185 37 [v0, v1, v2] [] Q) := c_callV i_185_37 rfl rfl rfl rfl (Nat.le_of_ble_eq_true rfl) (Nat.le_of_ble_eq_true rfl) rfl
theorem q_185_40 : XX d 185 40 [some (.ref a), v1, v2] st A Q ↔ XX d 185 41 [some (.ref a), v1, v2] (.ref a :: st) A Q := c_lcl i_185_40 rfl rfl
theorem q_185_41 : XX d 185 41 [v0, v1, v2] (.ref a :: st) (mk S I L R G) Q ↔ S a = some (.inr 12) ∧ XX d 185 44 [v0, v1, v2] (.ref (a + 3) :: st) (mk S I L R G) Q := r_gf i_185_41 rfl (by decide) rfl
theorem q_185_44 : XX d 185 44 [v0, some (.int x), v2] st A Q ↔ XX d 185 45 [v0, some (.int x), v2] (.int x :: st) A Q := c_lcl i_185_44 rfl rfl
theorem q_185_45 : XX d 185 45 [v0, v1, v2] (.int x :: .ref a :: st) (mk S I L R G) Q ↔ inA (S a) ok_i x ∧ XX d 185 46 [v0, v1, v2] (.int (I a (ix x)) :: st) (mk S I L R G) Q := r_ia i_185_45
theorem q_185_46 : XX d 185 46 [v0, v1, v2] [.int x] A Q ↔ Q (.inl (some (.int x))) A := e_retI i_185_46 rfl
theorem q_185_e : XC d 185 [.ref a0, .int x1, .int x2] A Q ↔ XX d 185 0 [some (.ref a0), some (.int x1), some (.int x2)] [] A Q := Iff.rfl
theorem i_186_0 : t_ins 186 0 = some (.aload_n 0) := by decide +kernel
theorem i_186_1 : t_ins 186 1 = some (.iload_n 1) := by decide +kernel
theorem i_186_2 : t_ins 186 2 = some (.iload_n 2) := by decide +kernel
theorem i_186_3 : t_ins 186 3 = some (.iconst 2) := by decide +kernel
theorem i_186_4 : t_ins 186 4 = some (.iconst 0) := by decide +kernel
theorem i_186_5 : t_ins 186 5 = some (.invokevirtual 215) := by decide +kernel
theorem i_186_8 : t_ins 186 8 = some (.aload_n 0) := by decide +kernel
theorem i_186_9 : t_ins 186 9 = some (.iload_n 1) := by decide +kernel
theorem i_186_10 : t_ins 186 10 = some (.iload_n 2) := by decide +kernel
theorem i_186_11 : t_ins 186 11 = some (.iconst 1) := by decide +kernel
theorem i_186_12 : t_ins 186 12 = some (.isub) := by decide +kernel
theorem i_186_13 : t_ins 186 13 = some (.iload_n 1) := by decide +kernel
theorem i_186_14 : t_ins 186 14 = some (.iload_n 2) := by decide +kernel
theorem i_186_15 : t_ins 186 15 = some (.invokevirtual 215) := by decide +kernel
theorem i_186_18 : t_ins 186 18 = some (.aload_n 0) := by decide +kernel
theorem i_186_19 : t_ins 186 19 = some (.iconst 2) := by decide +kernel
theorem i_186_20 : t_ins 186 20 = some (.iconst 0) := by decide +kernel
theorem i_186_21 : t_ins 186 21 = some (.iload_n 1) := by decide +kernel
theorem i_186_22 : t_ins 186 22 = some (.iload_n 2) := by decide +kernel
theorem i_186_23 : t_ins 186 23 = some (.iconst 1) := by decide +kernel
theorem i_186_24 : t_ins 186 24 = some (.isub) := by decide +kernel
theorem i_186_25 : t_ins 186 25 = some (.invokevirtual 215) := by decide +kernel
theorem i_186_28 : t_ins 186 28 = some (.return_) := by decide +kernel
theorem q_186_0 : XX d 186 0 [some (.ref a), v1, v2] st A Q ↔ XX d 186 1 [some (.ref a), v1, v2] (.ref a :: st) A Q := c_lcl i_186_0 rfl rfl
theorem q_186_1 : XX d 186 1 [v0, some (.int x), v2] st A Q ↔ XX d 186 2 [v0, some (.int x), v2] (.int x :: st) A Q := c_lcl i_186_1 rfl rfl
theorem q_186_2 : XX d 186 2 [v0, v1, some (.int x)] st A Q ↔ XX d 186 3 [v0, v1, some (.int x)] (.int x :: st) A Q := c_lcl i_186_2 rfl rfl
theorem q_186_3 : XX d 186 3 [v0, v1, v2] st A Q ↔ XX d 186 4 [v0, v1, v2] (.int (w 2) :: st) A Q := c_stk i_186_3 rfl
theorem q_186_4 : XX d 186 4 [v0, v1, v2] st A Q ↔ XX d 186 5 [v0, v1, v2] (.int (w 0) :: st) A Q := c_stk i_186_4 rfl
theorem q_186_5 : XX (d + 1) 186 5 [v0, v1, v2] [.int x4, .int x3, .int x2, .int x1, .ref a0] (mk S I L R G) Q ↔ S a0 = some (.inr 12) ∧ XC d 173 [.ref a0, .int x1, .int x2, .int x3, .int x4] (mk S I L R G) (XK (d + 1) 186 5 [v0, v1, v2] [] Q) := c_callV i_186_5 rfl rfl rfl rfl (Nat.le_of_ble_eq_true rfl) (Nat.le_of_ble_eq_true rfl) rfl
theorem q_186_8 : XX d 186 8 [some (.ref a), v1, v2] st A Q ↔ XX d 186 9 [some (.ref a), v1, v2] (.ref a :: st) A Q := c_lcl i_186_8 rfl rfl
theorem q_186_9 : XX d 186 9 [v0, some (.int x), v2] st A Q ↔ XX d 186 10 [v0, some (.int x), v2] (.int x :: st) A Q := c_lcl i_186_9 rfl rfl
theorem q_186_10 : XX d 186 10 [v0, v1, some (.int x)] st A Q ↔ XX d 186 11 [v0, v1, some (.int x)] (.int x :: st) A Q := c_lcl i_186_10 rfl rfl
theorem q_186_11 : XX d 186 11 [v0, v1, v2] st A Q ↔ XX d 186 12 [v0, v1, v2] (.int (w 1) :: st) A Q := c_stk i_186_11 rfl
theorem q_186_12 : XX d 186 12 [v0, v1, v2] (.int y :: .int x :: st) A Q ↔ XX d 186 13 [v0, v1, v2] (.int (x - y) :: st) A Q := c_stk i_186_12 rfl
theorem q_186_13 : XX d 186 13 [v0, some (.int x), v2] st A Q ↔ XX d 186 14 [v0, some (.int x), v2] (.int x :: st) A Q := c_lcl i_186_13 rfl rfl
theorem q_186_14 : XX d 186 14 [v0, v1, some (.int x)] st A Q ↔ XX d 186 15 [v0, v1, some (.int x)] (.int x :: st) A Q := c_lcl i_186_14 rfl rfl
theorem q_186_15 : XX (d + 1) 186 15 [v0, v1, v2] [.int x4, .int x3, .int x2, .int x1, .ref a0] (mk S I L R G) Q ↔ S a0 = some (.inr 12) ∧ XC d 173 [.ref a0, .int x1, .int x2, .int x3, .int x4] (mk S I L R G) (XK (d + 1) 186 15 [v0, v1, v2] [] Q) := c_callV i_186_15 rfl rfl rfl rfl (Nat.le_of_ble_eq_true rfl) (Nat.le_of_ble_eq_true rfl) rfl
theorem q_186_18 : XX d 186 18 [some (.ref a), v1, v2] st A Q ↔ XX d 186 19 [some (.ref a), v1, v2] (.ref a :: st) A Q := c_lcl i_186_18 rfl rfl
theorem q_186_19 : XX d 186 19 [v0, v1, v2] st A Q ↔ XX d 186 20 [v0, v1, v2] (.int (w 2) :: st) A Q := c_stk i_186_19 rfl
theorem q_186_20 : XX d 186 20 [v0, v1, v2] st A Q ↔ XX d 186 21 [v0, v1, v2] (.int (w 0) :: st) A Q := c_stk i_186_20 rfl
theorem q_186_21 : XX d 186 21 [v0, some (.int x), v2] st A Q ↔ XX d 186 22 [v0, some (.int x), v2] (.int x :: st) A Q := c_lcl i_186_21 rfl rfl
theorem q_186_22 : XX d 186 22 [v0, v1, some (.int x)] st A Q ↔ XX d 186 23 [v0, v1, some (.int x)] (.int x :: st) A Q := c_lcl i_186_22 rfl rfl
theorem q_186_23 : XX d 186 23 [v0, v1, v2] st A Q ↔ XX d 186 24 [v0, v1, v2] (.int (w 1) :: st) A Q := c_stk i_186_23 rfl
theorem q_186_24 : XX d 186 24 [v0, v1, v2] (.int y :: .int x :: st) A Q ↔ XX d 186 25 [v0, v1, v2] (.int (x - y) :: st) A Q := c_stk i_186_24 rfl
theorem q_186_25 : XX (d + 1) 186 25 [v0, v1, v2] [.int x4, .int x3, .int x2, .int x1, .ref a0] (mk S I L R G) Q ↔ S a0 = some (.inr 12) ∧ XC d 173 [.ref a0, .int x1, .int x2, .int x3, .int x4] (mk S I L R G) (XK (d + 1) 186 25 [v0, v1, v2] [] Q) := c_callV i_186_25 rfl rfl rfl rfl (Nat.le_of_ble_eq_true rfl) (Nat.le_of_ble_eq_true rfl) rfl
theorem q_186_28 : XX d 186 28 [v0, v1, v2] [] A Q ↔ Q (.inl none) A := e_retN i_186_28 rfl
theorem q_186_e : XC d 186 [.ref a0, .int x1, .int x2] A Q ↔ XX d 186 0 [some (.ref a0), some (.int x1), some (.int x2)] [] A Q := Iff.rfl
theorem i_187_0 : t_ins 187 0 = some (.iconst 0) := by decide +kernel
theorem i_187_1 : t_ins 187 1 = some (.istore_n 3) := by decide +kernel
theorem i_187_2 : t_ins 187 2 = some (.iload_n 3) := by decide +kernel
theorem i_187_3 : t_ins 187 3 = some (.aload_n 0) := by decide +kernel
theorem i_187_4 : t_ins 187 4 = some (.getfield 20) := by decide +kernel
theorem i_187_7 : t_ins 187 7 = some (.iload_n 1) := by decide +kernel
theorem i_187_8 : t_ins 187 8 = some (.iaload) := by decide +kernel
theorem i_187_9 : t_ins 187 9 = some (.if_icmp .ge 50) := by decide +kernel
theorem i_187_12 : t_ins 187 12 = some (.aload_n 0) := by decide +kernel
theorem i_187_13 : t_ins 187 13 = some (.getfield 28) := by decide +kernel
theorem i_187_16 : t_ins 187 16 = some (.iload_n 1) := by decide +kernel
theorem i_187_17 : t_ins 187 17 = some (.aaload) := by decide +kernel
theorem i_187_18 : t_ins 187 18 = some (.iload_n 3) := by decide +kernel
theorem i_187_19 : t_ins 187 19 = some (.aaload) := by decide +kernel
theorem i_187_20 : t_ins 187 20 = some (.astore 4) := by decide +kernel
theorem i_187_22 : t_ins 187 22 = some (.iload_n 2) := by decide +kernel
theorem i_187_23 : t_ins 187 23 = some (.aload 4) := by decide +kernel
theorem i_187_25 : t_ins 187 25 = some (.iconst 0) := by decide +kernel
theorem i_187_26 : t_ins 187 26 = some (.iaload) := by decide +kernel
theorem i_187_27 : t_ins 187 27 = some (.if_icmp .lt 26) := by decide +kernel
theorem i_187_30 : t_ins 187 30 = some (.iload_n 2) := by decide +kernel
theorem i_187_31 : t_ins 187 31 = some (.aload 4) := by decide +kernel
theorem i_187_33 : t_ins 187 33 = some (.iconst 1) := by decide +kernel
theorem i_187_34 : t_ins 187 34 = some (.iaload) := by decide +kernel
theorem i_187_35 : t_ins 187 35 = some (.if_icmp .gt 18) := by decide +kernel
theorem i_187_38 : t_ins 187 38 = some (.iload_n 2) := by decide +kernel
theorem i_187_39 : t_ins 187 39 = some (.aload 4) := by decide +kernel
theorem i_187_41 : t_ins 187 41 = some (.iconst 2) := by decide +kernel
theorem i_187_42 : t_ins 187 42 = some (.iaload) := by decide +kernel
theorem i_187_43 : t_ins 187 43 = some (.irem) := by decide +kernel
theorem i_187_44 : t_ins 187 44 = some (.aload 4) := by decide +kernel
theorem i_187_46 : t_ins 187 46 = some (.iconst 3) := by decide +kernel
theorem i_187_47 : t_ins 187 47 = some (.iaload) := by decide +kernel
theorem i_187_48 : t_ins 187 48 = some (.if_icmp .ne 5) := by decide +kernel
theorem i_187_51 : t_ins 187 51 = some (.iload_n 3) := by decide +kernel
theorem i_187_52 : t_ins 187 52 = some (.ireturn) := by decide +kernel
theorem i_187_53 : t_ins 187 53 = some (.iinc 3 1) := by decide +kernel
theorem i_187_56 : t_ins 187 56 = some (.goto (-54)) := by decide +kernel
theorem i_187_59 : t_ins 187 59 = some (.iconst (-1)) := by decide +kernel
theorem i_187_60 : t_ins 187 60 = some (.ireturn) := by decide +kernel
theorem q_187_0 : XX d 187 0 [v0, v1, v2, v3, v4] st A Q ↔ XX d 187 1 [v0, v1, v2, v3, v4] (.int (w 0) :: st) A Q := c_stk i_187_0 rfl
theorem q_187_1 : XX d 187 1 [v0, v1, some (.int z), v3, v4] (.int x :: st) A Q ↔ XX d 187 2 [v0, v1, some (.int z), some (.int x), v4] st A Q := c_lcl i_187_1 rfl rfl
theorem q_187_2 : XX d 187 2 [v0, v1, v2, some (.int x), v4] st A Q ↔ XX d 187 3 [v0, v1, v2, some (.int x), v4] (.int x :: st) A Q := c_lcl i_187_2 rfl rfl
theorem q_187_3 : XX d 187 3 [some (.ref a), v1, v2, v3, v4] st A Q ↔ XX d 187 4 [some (.ref a), v1, v2, v3, v4] (.ref a :: st) A Q := c_lcl i_187_3 rfl rfl
theorem q_187_4 : XX d 187 4 [v0, v1, v2, v3, v4] (.ref a :: st) (mk S I L R G) Q ↔ S a = some (.inr 12) ∧ XX d 187 7 [v0, v1, v2, v3, v4] (.ref (a + 3) :: st) (mk S I L R G) Q := r_gf i_187_4 rfl (by decide) rfl
theorem q_187_7 : XX d 187 7 [v0, some (.int x), v2, v3, v4] st A Q ↔ XX d 187 8 [v0, some (.int x), v2, v3, v4] (.int x :: st) A Q := c_lcl i_187_7 rfl rfl
theorem q_187_8 : XX d 187 8 [v0, v1, v2, v3, v4] (.int x :: .ref a :: st) (mk S I L R G) Q ↔ inA (S a) ok_i x ∧ XX d 187 9 [v0, v1, v2, v3, v4] (.int (I a (ix x)) :: st) (mk S I L R G) Q := r_ia i_187_8
theorem q_187_9 : XX d 187 9 [v0, v1, v2, v3, v4] (.int y :: .int x :: st) A Q ↔ if x < y then XX d 187 12 [v0, v1, v2, v3, v4] st A Q else XX d 187 59 [v0, v1, v2, v3, v4] st A Q := b_ge i_187_9 rfl rfl rfl
theorem q_187_12 : XX d 187 12 [some (.ref a), v1, v2, v3, v4] st A Q ↔ XX d 187 13 [some (.ref a), v1, v2, v3, v4] (.ref a :: st) A Q := c_lcl i_187_12 rfl rfl
theorem q_187_13 : XX d 187 13 [v0, v1, v2, v3, v4] (.ref a :: st) (mk S I L R G) Q ↔ S a = some (.inr 12) ∧ XX d 187 16 [v0, v1, v2, v3, v4] (.ref (a + 5) :: st) (mk S I L R G) Q := r_gf i_187_13 rfl (by decide) rfl
theorem q_187_16 : XX d 187 16 [v0, some (.int x), v2, v3, v4] st A Q ↔ XX d 187 17 [v0, some (.int x), v2, v3, v4] (.int x :: st) A Q := c_lcl i_187_16 rfl rfl
theorem q_187_17 : XX d 187 17 [v0, v1, v2, v3, v4] (.int x :: .ref a :: st) (mk S I L R G) Q ↔ inA (S a) ok_q x ∧ XX d 187 18 [v0, v1, v2, v3, v4] (va_rf (R a (ix x)) :: st) (mk S I L R G) Q := r_aq i_187_17
theorem q_187_18 : XX d 187 18 [v0, v1, v2, some (.int x), v4] st A Q ↔ XX d 187 19 [v0, v1, v2, some (.int x), v4] (.int x :: st) A Q := c_lcl i_187_18 rfl rfl
theorem q_187_19 : XX d 187 19 [v0, v1, v2, v3, v4] (.int x :: .ref a :: st) (mk S I L R G) Q ↔ inA (S a) ok_q x ∧ XX d 187 20 [v0, v1, v2, v3, v4] (va_rf (R a (ix x)) :: st) (mk S I L R G) Q := r_aq i_187_19
theorem q_187_20 : XX d 187 20 [v0, v1, v2, some (.int z), v4] (.ref a :: st) A Q ↔ XX d 187 22 [v0, v1, v2, some (.int z), some (.ref a)] st A Q := c_lcl i_187_20 rfl rfl
theorem q_187_20o : XX d 187 20 [v0, v1, v2, some (.int z), v4] (va_rf o :: st) A Q ↔ XX d 187 22 [v0, v1, v2, some (.int z), some (va_rf o)] st A Q := by cases o <;> exact c_lcl i_187_20 rfl rfl
theorem q_187_22 : XX d 187 22 [v0, v1, some (.int x), v3, v4] st A Q ↔ XX d 187 23 [v0, v1, some (.int x), v3, v4] (.int x :: st) A Q := c_lcl i_187_22 rfl rfl
theorem q_187_23 : XX d 187 23 [v0, v1, v2, v3, some (.ref a)] st A Q ↔ XX d 187 25 [v0, v1, v2, v3, some (.ref a)] (.ref a :: st) A Q := c_lcl i_187_23 rfl rfl
theorem q_187_23o : XX d 187 23 [v0, v1, v2, v3, some (va_rf o)] st A Q ↔ XX d 187 25 [v0, v1, v2, v3, some (va_rf o)] (va_rf o :: st) A Q := by cases o <;> exact c_lcl i_187_23 rfl rfl
theorem q_187_25 : XX d 187 25 [v0, v1, v2, v3, v4] st A Q ↔ XX d 187 26 [v0, v1, v2, v3, v4] (.int (w 0) :: st) A Q := c_stk i_187_25 rfl
theorem q_187_26 : XX d 187 26 [v0, v1, v2, v3, v4] (.int x :: .ref a :: st) (mk S I L R G) Q ↔ inA (S a) ok_i x ∧ XX d 187 27 [v0, v1, v2, v3, v4] (.int (I a (ix x)) :: st) (mk S I L R G) Q := r_ia i_187_26
theorem q_187_27 : XX d 187 27 [v0, v1, v2, v3, v4] (.int y :: .int x :: st) A Q ↔ if x < y then XX d 187 53 [v0, v1, v2, v3, v4] st A Q else XX d 187 30 [v0, v1, v2, v3, v4] st A Q := b_lt i_187_27 rfl rfl rfl
theorem q_187_30 : XX d 187 30 [v0, v1, some (.int x), v3, v4] st A Q ↔ XX d 187 31 [v0, v1, some (.int x), v3, v4] (.int x :: st) A Q := c_lcl i_187_30 rfl rfl
theorem q_187_31 : XX d 187 31 [v0, v1, v2, v3, some (.ref a)] st A Q ↔ XX d 187 33 [v0, v1, v2, v3, some (.ref a)] (.ref a :: st) A Q := c_lcl i_187_31 rfl rfl
theorem q_187_31o : XX d 187 31 [v0, v1, v2, v3, some (va_rf o)] st A Q ↔ XX d 187 33 [v0, v1, v2, v3, some (va_rf o)] (va_rf o :: st) A Q := by cases o <;> exact c_lcl i_187_31 rfl rfl
theorem q_187_33 : XX d 187 33 [v0, v1, v2, v3, v4] st A Q ↔ XX d 187 34 [v0, v1, v2, v3, v4] (.int (w 1) :: st) A Q := c_stk i_187_33 rfl
theorem q_187_34 : XX d 187 34 [v0, v1, v2, v3, v4] (.int x :: .ref a :: st) (mk S I L R G) Q ↔ inA (S a) ok_i x ∧ XX d 187 35 [v0, v1, v2, v3, v4] (.int (I a (ix x)) :: st) (mk S I L R G) Q := r_ia i_187_34
theorem q_187_35 : XX d 187 35 [v0, v1, v2, v3, v4] (.int y :: .int x :: st) A Q ↔ if y < x then XX d 187 53 [v0, v1, v2, v3, v4] st A Q else XX d 187 38 [v0, v1, v2, v3, v4] st A Q := b_gt i_187_35 rfl rfl rfl
theorem q_187_38 : XX d 187 38 [v0, v1, some (.int x), v3, v4] st A Q ↔ XX d 187 39 [v0, v1, some (.int x), v3, v4] (.int x :: st) A Q := c_lcl i_187_38 rfl rfl
theorem q_187_39 : XX d 187 39 [v0, v1, v2, v3, some (.ref a)] st A Q ↔ XX d 187 41 [v0, v1, v2, v3, some (.ref a)] (.ref a :: st) A Q := c_lcl i_187_39 rfl rfl
theorem q_187_39o : XX d 187 39 [v0, v1, v2, v3, some (va_rf o)] st A Q ↔ XX d 187 41 [v0, v1, v2, v3, some (va_rf o)] (va_rf o :: st) A Q := by cases o <;> exact c_lcl i_187_39 rfl rfl
theorem q_187_41 : XX d 187 41 [v0, v1, v2, v3, v4] st A Q ↔ XX d 187 42 [v0, v1, v2, v3, v4] (.int (w 2) :: st) A Q := c_stk i_187_41 rfl
theorem q_187_42 : XX d 187 42 [v0, v1, v2, v3, v4] (.int x :: .ref a :: st) (mk S I L R G) Q ↔ inA (S a) ok_i x ∧ XX d 187 43 [v0, v1, v2, v3, v4] (.int (I a (ix x)) :: st) (mk S I L R G) Q := r_ia i_187_42
theorem q_187_43 : XX d 187 43 [v0, v1, v2, v3, v4] (.int y :: .int x :: st) A Q ↔ ¬ y = w 0 ∧ XX d 187 44 [v0, v1, v2, v3, v4] (.int (x - x / y * y) :: st) A Q := c_rem i_187_43
theorem q_187_44 : XX d 187 44 [v0, v1, v2, v3, some (.ref a)] st A Q ↔ XX d 187 46 [v0, v1, v2, v3, some (.ref a)] (.ref a :: st) A Q := c_lcl i_187_44 rfl rfl
theorem q_187_44o : XX d 187 44 [v0, v1, v2, v3, some (va_rf o)] st A Q ↔ XX d 187 46 [v0, v1, v2, v3, some (va_rf o)] (va_rf o :: st) A Q := by cases o <;> exact c_lcl i_187_44 rfl rfl
theorem q_187_46 : XX d 187 46 [v0, v1, v2, v3, v4] st A Q ↔ XX d 187 47 [v0, v1, v2, v3, v4] (.int (w 3) :: st) A Q := c_stk i_187_46 rfl
theorem q_187_47 : XX d 187 47 [v0, v1, v2, v3, v4] (.int x :: .ref a :: st) (mk S I L R G) Q ↔ inA (S a) ok_i x ∧ XX d 187 48 [v0, v1, v2, v3, v4] (.int (I a (ix x)) :: st) (mk S I L R G) Q := r_ia i_187_47
theorem q_187_48 : XX d 187 48 [v0, v1, v2, v3, v4] (.int y :: .int x :: st) A Q ↔ if x = y then XX d 187 51 [v0, v1, v2, v3, v4] st A Q else XX d 187 53 [v0, v1, v2, v3, v4] st A Q := b_ne i_187_48 rfl rfl rfl
theorem q_187_51 : XX d 187 51 [v0, v1, v2, some (.int x), v4] st A Q ↔ XX d 187 52 [v0, v1, v2, some (.int x), v4] (.int x :: st) A Q := c_lcl i_187_51 rfl rfl
theorem q_187_52 : XX d 187 52 [v0, v1, v2, v3, v4] [.int x] A Q ↔ Q (.inl (some (.int x))) A := e_retI i_187_52 rfl
theorem q_187_53 : XX d 187 53 [v0, v1, some (.int z), some (.int x), v4] st A Q ↔ XX d 187 56 [v0, v1, some (.int z), some (.int (x + w 1)), v4] st A Q := c_lcl i_187_53 rfl rfl
theorem q_187_56 : XX d 187 56 [v0, v1, v2, v3, v4] st A Q ↔ XX d 187 2 [v0, v1, v2, v3, v4] st A Q := c_go i_187_56 rfl rfl
theorem q_187_59 : XX d 187 59 [v0, v1, v2, v3, v4] st A Q ↔ XX d 187 60 [v0, v1, v2, v3, v4] (.int (w (-1)) :: st) A Q := c_stk i_187_59 rfl
theorem q_187_60 : XX d 187 60 [v0, v1, v2, v3, v4] [.int x] A Q ↔ Q (.inl (some (.int x))) A := e_retI i_187_60 rfl
theorem q_187_e : XC d 187 [.ref a0, .int x1, .int x2] A Q ↔ XX d 187 0 [some (.ref a0), some (.int x1), some (.int x2), none, none] [] A Q := Iff.rfl
theorem i_188_0 : t_ins 188 0 = some (.aload_n 0) := by decide +kernel
theorem i_188_1 : t_ins 188 1 = some (.getfield 48) := by decide +kernel
theorem i_188_4 : t_ins 188 4 = some (.aload_n 0) := by decide +kernel
theorem i_188_5 : t_ins 188 5 = some (.getfield 255) := by decide +kernel
theorem i_188_8 : t_ins 188 8 = some (.aaload) := by decide +kernel
theorem i_188_9 : t_ins 188 9 = some (.iconst 0) := by decide +kernel
theorem i_188_10 : t_ins 188 10 = some (.iload_n 1) := by decide +kernel
theorem i_188_11 : t_ins 188 11 = some (.iastore) := by decide +kernel
theorem i_188_12 : t_ins 188 12 = some (.aload_n 0) := by decide +kernel
theorem i_188_13 : t_ins 188 13 = some (.getfield 48) := by decide +kernel
theorem i_188_16 : t_ins 188 16 = some (.aload_n 0) := by decide +kernel
theorem i_188_17 : t_ins 188 17 = some (.getfield 255) := by decide +kernel
theorem i_188_20 : t_ins 188 20 = some (.aaload) := by decide +kernel
theorem i_188_21 : t_ins 188 21 = some (.iconst 1) := by decide +kernel
theorem i_188_22 : t_ins 188 22 = some (.iload_n 2) := by decide +kernel
theorem i_188_23 : t_ins 188 23 = some (.iastore) := by decide +kernel
theorem i_188_24 : t_ins 188 24 = some (.aload_n 0) := by decide +kernel
theorem i_188_25 : t_ins 188 25 = some (.getfield 48) := by decide +kernel
theorem i_188_28 : t_ins 188 28 = some (.aload_n 0) := by decide +kernel
theorem i_188_29 : t_ins 188 29 = some (.getfield 255) := by decide +kernel
theorem i_188_32 : t_ins 188 32 = some (.aaload) := by decide +kernel
theorem i_188_33 : t_ins 188 33 = some (.iconst 2) := by decide +kernel
theorem i_188_34 : t_ins 188 34 = some (.iload_n 3) := by decide +kernel
theorem i_188_35 : t_ins 188 35 = some (.iastore) := by decide +kernel
theorem i_188_36 : t_ins 188 36 = some (.aload_n 0) := by decide +kernel
theorem i_188_37 : t_ins 188 37 = some (.getfield 48) := by decide +kernel
theorem i_188_40 : t_ins 188 40 = some (.aload_n 0) := by decide +kernel
theorem i_188_41 : t_ins 188 41 = some (.getfield 255) := by decide +kernel
theorem i_188_44 : t_ins 188 44 = some (.aaload) := by decide +kernel
theorem i_188_45 : t_ins 188 45 = some (.iconst 3) := by decide +kernel
theorem i_188_46 : t_ins 188 46 = some (.iload 4) := by decide +kernel
theorem i_188_48 : t_ins 188 48 = some (.iastore) := by decide +kernel
theorem i_188_49 : t_ins 188 49 = some (.aload_n 0) := by decide +kernel
theorem i_188_50 : t_ins 188 50 = some (.dup) := by decide +kernel
theorem i_188_51 : t_ins 188 51 = some (.getfield 255) := by decide +kernel
theorem i_188_54 : t_ins 188 54 = some (.iconst 1) := by decide +kernel
theorem i_188_55 : t_ins 188 55 = some (.iadd) := by decide +kernel
theorem i_188_56 : t_ins 188 56 = some (.putfield 255) := by decide +kernel
theorem i_188_59 : t_ins 188 59 = some (.iconst 0) := by decide +kernel
theorem i_188_60 : t_ins 188 60 = some (.ireturn) := by decide +kernel
theorem q_188_0 : XX d 188 0 [some (.ref a), v1, v2, v3, v4] st A Q ↔ XX d 188 1 [some (.ref a), v1, v2, v3, v4] (.ref a :: st) A Q := c_lcl i_188_0 rfl rfl
theorem q_188_1 : XX d 188 1 [v0, v1, v2, v3, v4] (.ref a :: st) (mk S I L R G) Q ↔ S a = some (.inr 12) ∧ XX d 188 4 [v0, v1, v2, v3, v4] (.ref (a + 6543) :: st) (mk S I L R G) Q := r_gf i_188_1 rfl (by decide) rfl
theorem q_188_4 : XX d 188 4 [some (.ref a), v1, v2, v3, v4] st A Q ↔ XX d 188 5 [some (.ref a), v1, v2, v3, v4] (.ref a :: st) A Q := c_lcl i_188_4 rfl rfl
theorem q_188_5 : XX d 188 5 [v0, v1, v2, v3, v4] (.ref a :: st) (mk S I L R G) Q ↔ S a = some (.inr 12) ∧ XX d 188 8 [v0, v1, v2, v3, v4] (.int (I a 19) :: st) (mk S I L R G) Q := r_gf i_188_5 rfl (by decide) rfl
theorem q_188_8 : XX d 188 8 [v0, v1, v2, v3, v4] (.int x :: .ref a :: st) (mk S I L R G) Q ↔ inA (S a) ok_q x ∧ XX d 188 9 [v0, v1, v2, v3, v4] (va_rf (R a (ix x)) :: st) (mk S I L R G) Q := r_aq i_188_8
theorem q_188_9 : XX d 188 9 [v0, v1, v2, v3, v4] st A Q ↔ XX d 188 10 [v0, v1, v2, v3, v4] (.int (w 0) :: st) A Q := c_stk i_188_9 rfl
theorem q_188_10 : XX d 188 10 [v0, some (.int x), v2, v3, v4] st A Q ↔ XX d 188 11 [v0, some (.int x), v2, v3, v4] (.int x :: st) A Q := c_lcl i_188_10 rfl rfl
theorem q_188_11 : XX d 188 11 [v0, v1, v2, v3, v4] (.int y :: .int x :: .ref a :: st) (mk S I L R G) Q ↔ inA (S a) ok_0 x ∧ XX d 188 12 [v0, v1, v2, v3, v4] st (mk S (wr I a (up (I a) (ix x) y)) L R G) Q := r_ias i_188_11
theorem q_188_12 : XX d 188 12 [some (.ref a), v1, v2, v3, v4] st A Q ↔ XX d 188 13 [some (.ref a), v1, v2, v3, v4] (.ref a :: st) A Q := c_lcl i_188_12 rfl rfl
theorem q_188_13 : XX d 188 13 [v0, v1, v2, v3, v4] (.ref a :: st) (mk S I L R G) Q ↔ S a = some (.inr 12) ∧ XX d 188 16 [v0, v1, v2, v3, v4] (.ref (a + 6543) :: st) (mk S I L R G) Q := r_gf i_188_13 rfl (by decide) rfl
theorem q_188_16 : XX d 188 16 [some (.ref a), v1, v2, v3, v4] st A Q ↔ XX d 188 17 [some (.ref a), v1, v2, v3, v4] (.ref a :: st) A Q := c_lcl i_188_16 rfl rfl
theorem q_188_17 : XX d 188 17 [v0, v1, v2, v3, v4] (.ref a :: st) (mk S I L R G) Q ↔ S a = some (.inr 12) ∧ XX d 188 20 [v0, v1, v2, v3, v4] (.int (I a 19) :: st) (mk S I L R G) Q := r_gf i_188_17 rfl (by decide) rfl
theorem q_188_20 : XX d 188 20 [v0, v1, v2, v3, v4] (.int x :: .ref a :: st) (mk S I L R G) Q ↔ inA (S a) ok_q x ∧ XX d 188 21 [v0, v1, v2, v3, v4] (va_rf (R a (ix x)) :: st) (mk S I L R G) Q := r_aq i_188_20
theorem q_188_21 : XX d 188 21 [v0, v1, v2, v3, v4] st A Q ↔ XX d 188 22 [v0, v1, v2, v3, v4] (.int (w 1) :: st) A Q := c_stk i_188_21 rfl
theorem q_188_22 : XX d 188 22 [v0, v1, some (.int x), v3, v4] st A Q ↔ XX d 188 23 [v0, v1, some (.int x), v3, v4] (.int x :: st) A Q := c_lcl i_188_22 rfl rfl
theorem q_188_23 : XX d 188 23 [v0, v1, v2, v3, v4] (.int y :: .int x :: .ref a :: st) (mk S I L R G) Q ↔ inA (S a) ok_0 x ∧ XX d 188 24 [v0, v1, v2, v3, v4] st (mk S (wr I a (up (I a) (ix x) y)) L R G) Q := r_ias i_188_23
theorem q_188_24 : XX d 188 24 [some (.ref a), v1, v2, v3, v4] st A Q ↔ XX d 188 25 [some (.ref a), v1, v2, v3, v4] (.ref a :: st) A Q := c_lcl i_188_24 rfl rfl
theorem q_188_25 : XX d 188 25 [v0, v1, v2, v3, v4] (.ref a :: st) (mk S I L R G) Q ↔ S a = some (.inr 12) ∧ XX d 188 28 [v0, v1, v2, v3, v4] (.ref (a + 6543) :: st) (mk S I L R G) Q := r_gf i_188_25 rfl (by decide) rfl
theorem q_188_28 : XX d 188 28 [some (.ref a), v1, v2, v3, v4] st A Q ↔ XX d 188 29 [some (.ref a), v1, v2, v3, v4] (.ref a :: st) A Q := c_lcl i_188_28 rfl rfl
theorem q_188_29 : XX d 188 29 [v0, v1, v2, v3, v4] (.ref a :: st) (mk S I L R G) Q ↔ S a = some (.inr 12) ∧ XX d 188 32 [v0, v1, v2, v3, v4] (.int (I a 19) :: st) (mk S I L R G) Q := r_gf i_188_29 rfl (by decide) rfl
theorem q_188_32 : XX d 188 32 [v0, v1, v2, v3, v4] (.int x :: .ref a :: st) (mk S I L R G) Q ↔ inA (S a) ok_q x ∧ XX d 188 33 [v0, v1, v2, v3, v4] (va_rf (R a (ix x)) :: st) (mk S I L R G) Q := r_aq i_188_32
theorem q_188_33 : XX d 188 33 [v0, v1, v2, v3, v4] st A Q ↔ XX d 188 34 [v0, v1, v2, v3, v4] (.int (w 2) :: st) A Q := c_stk i_188_33 rfl
theorem q_188_34 : XX d 188 34 [v0, v1, v2, some (.int x), v4] st A Q ↔ XX d 188 35 [v0, v1, v2, some (.int x), v4] (.int x :: st) A Q := c_lcl i_188_34 rfl rfl
theorem q_188_35 : XX d 188 35 [v0, v1, v2, v3, v4] (.int y :: .int x :: .ref a :: st) (mk S I L R G) Q ↔ inA (S a) ok_0 x ∧ XX d 188 36 [v0, v1, v2, v3, v4] st (mk S (wr I a (up (I a) (ix x) y)) L R G) Q := r_ias i_188_35
theorem q_188_36 : XX d 188 36 [some (.ref a), v1, v2, v3, v4] st A Q ↔ XX d 188 37 [some (.ref a), v1, v2, v3, v4] (.ref a :: st) A Q := c_lcl i_188_36 rfl rfl
theorem q_188_37 : XX d 188 37 [v0, v1, v2, v3, v4] (.ref a :: st) (mk S I L R G) Q ↔ S a = some (.inr 12) ∧ XX d 188 40 [v0, v1, v2, v3, v4] (.ref (a + 6543) :: st) (mk S I L R G) Q := r_gf i_188_37 rfl (by decide) rfl
theorem q_188_40 : XX d 188 40 [some (.ref a), v1, v2, v3, v4] st A Q ↔ XX d 188 41 [some (.ref a), v1, v2, v3, v4] (.ref a :: st) A Q := c_lcl i_188_40 rfl rfl
theorem q_188_41 : XX d 188 41 [v0, v1, v2, v3, v4] (.ref a :: st) (mk S I L R G) Q ↔ S a = some (.inr 12) ∧ XX d 188 44 [v0, v1, v2, v3, v4] (.int (I a 19) :: st) (mk S I L R G) Q := r_gf i_188_41 rfl (by decide) rfl
theorem q_188_44 : XX d 188 44 [v0, v1, v2, v3, v4] (.int x :: .ref a :: st) (mk S I L R G) Q ↔ inA (S a) ok_q x ∧ XX d 188 45 [v0, v1, v2, v3, v4] (va_rf (R a (ix x)) :: st) (mk S I L R G) Q := r_aq i_188_44
theorem q_188_45 : XX d 188 45 [v0, v1, v2, v3, v4] st A Q ↔ XX d 188 46 [v0, v1, v2, v3, v4] (.int (w 3) :: st) A Q := c_stk i_188_45 rfl
theorem q_188_46 : XX d 188 46 [v0, v1, v2, v3, some (.int x)] st A Q ↔ XX d 188 48 [v0, v1, v2, v3, some (.int x)] (.int x :: st) A Q := c_lcl i_188_46 rfl rfl
theorem q_188_48 : XX d 188 48 [v0, v1, v2, v3, v4] (.int y :: .int x :: .ref a :: st) (mk S I L R G) Q ↔ inA (S a) ok_0 x ∧ XX d 188 49 [v0, v1, v2, v3, v4] st (mk S (wr I a (up (I a) (ix x) y)) L R G) Q := r_ias i_188_48
theorem q_188_49 : XX d 188 49 [some (.ref a), v1, v2, v3, v4] st A Q ↔ XX d 188 50 [some (.ref a), v1, v2, v3, v4] (.ref a :: st) A Q := c_lcl i_188_49 rfl rfl
theorem q_188_50 : XX d 188 50 [v0, v1, v2, v3, v4] (.ref a1 :: st) A Q ↔ XX d 188 51 [v0, v1, v2, v3, v4] (.ref a1 :: .ref a1 :: st) A Q := c_stk i_188_50 rfl
theorem q_188_51 : XX d 188 51 [v0, v1, v2, v3, v4] (.ref a :: st) (mk S I L R G) Q ↔ S a = some (.inr 12) ∧ XX d 188 54 [v0, v1, v2, v3, v4] (.int (I a 19) :: st) (mk S I L R G) Q := r_gf i_188_51 rfl (by decide) rfl
theorem q_188_54 : XX d 188 54 [v0, v1, v2, v3, v4] st A Q ↔ XX d 188 55 [v0, v1, v2, v3, v4] (.int (w 1) :: st) A Q := c_stk i_188_54 rfl
theorem q_188_55 : XX d 188 55 [v0, v1, v2, v3, v4] (.int y :: .int x :: st) A Q ↔ XX d 188 56 [v0, v1, v2, v3, v4] (.int (x + y) :: st) A Q := c_stk i_188_55 rfl
theorem q_188_56 : XX d 188 56 [v0, v1, v2, v3, v4] (.int x :: .ref a :: st) (mk S I L R G) Q ↔ S a = some (.inr 12) ∧ XX d 188 59 [v0, v1, v2, v3, v4] st (mk S (wr I a (up (I a) 19 x)) L R G) Q := r_pf i_188_56 rfl (by decide) rfl rfl rfl
theorem q_188_59 : XX d 188 59 [v0, v1, v2, v3, v4] st A Q ↔ XX d 188 60 [v0, v1, v2, v3, v4] (.int (w 0) :: st) A Q := c_stk i_188_59 rfl
theorem q_188_60 : XX d 188 60 [v0, v1, v2, v3, v4] [.int x] A Q ↔ (x = w 0 ∨ x = w 1) ∧ Q (.inl (some (.int x))) A := e_retZ i_188_60 rfl
theorem q_188_e : XC d 188 [.ref a0, .int x1, .int x2, .int x3, .int x4] A Q ↔ XX d 188 0 [some (.ref a0), some (.int x1), some (.int x2), some (.int x3), some (.int x4)] [] A Q := Iff.rfl
theorem i_189_0 : t_ins 189 0 = some (.iconst 0) := by decide +kernel
theorem i_189_1 : t_ins 189 1 = some (.istore_n 2) := by decide +kernel
theorem i_189_2 : t_ins 189 2 = some (.iload_n 2) := by decide +kernel
theorem i_189_3 : t_ins 189 3 = some (.aload_n 0) := by decide +kernel
theorem i_189_4 : t_ins 189 4 = some (.getfield 258) := by decide +kernel
theorem i_189_7 : t_ins 189 7 = some (.if_icmp .ge 21) := by decide +kernel
theorem i_189_10 : t_ins 189 10 = some (.aload_n 0) := by decide +kernel
theorem i_189_11 : t_ins 189 11 = some (.getfield 43) := by decide +kernel
theorem i_189_14 : t_ins 189 14 = some (.iload_n 2) := by decide +kernel
theorem i_189_15 : t_ins 189 15 = some (.iaload) := by decide +kernel
theorem i_189_16 : t_ins 189 16 = some (.iload_n 1) := by decide +kernel
theorem i_189_17 : t_ins 189 17 = some (.if_icmp .ne 5) := by decide +kernel
theorem i_189_20 : t_ins 189 20 = some (.iconst 1) := by decide +kernel
theorem i_189_21 : t_ins 189 21 = some (.ireturn) := by decide +kernel
theorem i_189_22 : t_ins 189 22 = some (.iinc 2 1) := by decide +kernel
theorem i_189_25 : t_ins 189 25 = some (.goto (-23)) := by decide +kernel
theorem i_189_28 : t_ins 189 28 = some (.iconst 0) := by decide +kernel
theorem i_189_29 : t_ins 189 29 = some (.ireturn) := by decide +kernel
theorem q_189_0 : XX d 189 0 [v0, v1, v2] st A Q ↔ XX d 189 1 [v0, v1, v2] (.int (w 0) :: st) A Q := c_stk i_189_0 rfl
theorem q_189_1 : XX d 189 1 [v0, some (.int z), v2] (.int x :: st) A Q ↔ XX d 189 2 [v0, some (.int z), some (.int x)] st A Q := c_lcl i_189_1 rfl rfl
theorem q_189_2 : XX d 189 2 [v0, v1, some (.int x)] st A Q ↔ XX d 189 3 [v0, v1, some (.int x)] (.int x :: st) A Q := c_lcl i_189_2 rfl rfl
theorem q_189_3 : XX d 189 3 [some (.ref a), v1, v2] st A Q ↔ XX d 189 4 [some (.ref a), v1, v2] (.ref a :: st) A Q := c_lcl i_189_3 rfl rfl
theorem q_189_4 : XX d 189 4 [v0, v1, v2] (.ref a :: st) (mk S I L R G) Q ↔ S a = some (.inr 12) ∧ XX d 189 7 [v0, v1, v2] (.int (I a 17) :: st) (mk S I L R G) Q := r_gf i_189_4 rfl (by decide) rfl
theorem q_189_7 : XX d 189 7 [v0, v1, v2] (.int y :: .int x :: st) A Q ↔ if x < y then XX d 189 10 [v0, v1, v2] st A Q else XX d 189 28 [v0, v1, v2] st A Q := b_ge i_189_7 rfl rfl rfl
theorem q_189_10 : XX d 189 10 [some (.ref a), v1, v2] st A Q ↔ XX d 189 11 [some (.ref a), v1, v2] (.ref a :: st) A Q := c_lcl i_189_10 rfl rfl
theorem q_189_11 : XX d 189 11 [v0, v1, v2] (.ref a :: st) (mk S I L R G) Q ↔ S a = some (.inr 12) ∧ XX d 189 14 [v0, v1, v2] (.ref (a + 6542) :: st) (mk S I L R G) Q := r_gf i_189_11 rfl (by decide) rfl
theorem q_189_14 : XX d 189 14 [v0, v1, some (.int x)] st A Q ↔ XX d 189 15 [v0, v1, some (.int x)] (.int x :: st) A Q := c_lcl i_189_14 rfl rfl
theorem q_189_15 : XX d 189 15 [v0, v1, v2] (.int x :: .ref a :: st) (mk S I L R G) Q ↔ inA (S a) ok_i x ∧ XX d 189 16 [v0, v1, v2] (.int (I a (ix x)) :: st) (mk S I L R G) Q := r_ia i_189_15
theorem q_189_16 : XX d 189 16 [v0, some (.int x), v2] st A Q ↔ XX d 189 17 [v0, some (.int x), v2] (.int x :: st) A Q := c_lcl i_189_16 rfl rfl
theorem q_189_17 : XX d 189 17 [v0, v1, v2] (.int y :: .int x :: st) A Q ↔ if x = y then XX d 189 20 [v0, v1, v2] st A Q else XX d 189 22 [v0, v1, v2] st A Q := b_ne i_189_17 rfl rfl rfl
theorem q_189_20 : XX d 189 20 [v0, v1, v2] st A Q ↔ XX d 189 21 [v0, v1, v2] (.int (w 1) :: st) A Q := c_stk i_189_20 rfl
theorem q_189_21 : XX d 189 21 [v0, v1, v2] [.int x] A Q ↔ (x = w 0 ∨ x = w 1) ∧ Q (.inl (some (.int x))) A := e_retZ i_189_21 rfl
theorem q_189_22 : XX d 189 22 [v0, some (.int z), some (.int x)] st A Q ↔ XX d 189 25 [v0, some (.int z), some (.int (x + w 1))] st A Q := c_lcl i_189_22 rfl rfl
theorem q_189_25 : XX d 189 25 [v0, v1, v2] st A Q ↔ XX d 189 2 [v0, v1, v2] st A Q := c_go i_189_25 rfl rfl
theorem q_189_28 : XX d 189 28 [v0, v1, v2] st A Q ↔ XX d 189 29 [v0, v1, v2] (.int (w 0) :: st) A Q := c_stk i_189_28 rfl
theorem q_189_29 : XX d 189 29 [v0, v1, v2] [.int x] A Q ↔ (x = w 0 ∨ x = w 1) ∧ Q (.inl (some (.int x))) A := e_retZ i_189_29 rfl
theorem q_189_e : XC d 189 [.ref a0, .int x1] A Q ↔ XX d 189 0 [some (.ref a0), some (.int x1), none] [] A Q := Iff.rfl
theorem i_190_0 : t_ins 190 0 = some (.iload_n 0) := by decide +kernel
theorem i_190_1 : t_ins 190 1 = some (.tableswitch 74 1 5 #[35, 40, 57, 62, 68]) := by decide +kernel
theorem i_190_36 : t_ins 190 36 = some (.iload_n 1) := by decide +kernel
theorem i_190_37 : t_ins 190 37 = some (.iload_n 2) := by decide +kernel
theorem i_190_38 : t_ins 190 38 = some (.idiv) := by decide +kernel
theorem i_190_39 : t_ins 190 39 = some (.i2l) := by decide +kernel
theorem i_190_40 : t_ins 190 40 = some (.lreturn) := by decide +kernel
theorem i_190_41 : t_ins 190 41 = some (.iload_n 1) := by decide +kernel
theorem i_190_42 : t_ins 190 42 = some (.iload_n 2) := by decide +kernel
theorem i_190_43 : t_ins 190 43 = some (.irem) := by decide +kernel
theorem i_190_44 : t_ins 190 44 = some (.ifCond .ne 9) := by decide +kernel
theorem i_190_47 : t_ins 190 47 = some (.ldc2_w 263) := by decide +kernel
theorem i_190_50 : t_ins 190 50 = some (.goto 7) := by decide +kernel
theorem i_190_53 : t_ins 190 53 = some (.iload_n 1) := by decide +kernel
theorem i_190_54 : t_ins 190 54 = some (.iload_n 2) := by decide +kernel
theorem i_190_55 : t_ins 190 55 = some (.irem) := by decide +kernel
theorem i_190_56 : t_ins 190 56 = some (.i2l) := by decide +kernel
theorem i_190_57 : t_ins 190 57 = some (.lreturn) := by decide +kernel
theorem i_190_58 : t_ins 190 58 = some (.iload_n 1) := by decide +kernel
theorem i_190_59 : t_ins 190 59 = some (.iload_n 2) := by decide +kernel
theorem i_190_60 : t_ins 190 60 = some (.irem) := by decide +kernel
theorem i_190_61 : t_ins 190 61 = some (.i2l) := by decide +kernel
theorem i_190_62 : t_ins 190 62 = some (.lreturn) := by decide +kernel
theorem i_190_63 : t_ins 190 63 = some (.iload_n 1) := by decide +kernel
theorem i_190_64 : t_ins 190 64 = some (.i2l) := by decide +kernel
theorem i_190_65 : t_ins 190 65 = some (.iload_n 2) := by decide +kernel
theorem i_190_66 : t_ins 190 66 = some (.i2l) := by decide +kernel
theorem i_190_67 : t_ins 190 67 = some (.lsub) := by decide +kernel
theorem i_190_68 : t_ins 190 68 = some (.lreturn) := by decide +kernel
theorem i_190_69 : t_ins 190 69 = some (.iload_n 1) := by decide +kernel
theorem i_190_70 : t_ins 190 70 = some (.i2l) := by decide +kernel
theorem i_190_71 : t_ins 190 71 = some (.iload_n 2) := by decide +kernel
theorem i_190_72 : t_ins 190 72 = some (.i2l) := by decide +kernel
theorem i_190_73 : t_ins 190 73 = some (.ladd) := by decide +kernel
theorem i_190_74 : t_ins 190 74 = some (.lreturn) := by decide +kernel
theorem i_190_75 : t_ins 190 75 = some (.ldc2_w 263) := by decide +kernel
theorem i_190_78 : t_ins 190 78 = some (.lreturn) := by decide +kernel
theorem q_190_0 : XX d 190 0 [some (.int x), v1, v2] st A Q ↔ XX d 190 1 [some (.int x), v1, v2] (.int x :: st) A Q := c_lcl i_190_0 rfl rfl
theorem q_190_1 : XX d 190 1 [v0, v1, v2] (.int x :: st) A Q ↔ XX d 190 (swT [36, 41, 58, 63, 69] 75 1 x.toInt) [v0, v1, v2] st A Q := c_tab i_190_1 rfl rfl rfl rfl
theorem q_190_36 : XX d 190 36 [v0, some (.int x), v2] st A Q ↔ XX d 190 37 [v0, some (.int x), v2] (.int x :: st) A Q := c_lcl i_190_36 rfl rfl
theorem q_190_37 : XX d 190 37 [v0, v1, some (.int x)] st A Q ↔ XX d 190 38 [v0, v1, some (.int x)] (.int x :: st) A Q := c_lcl i_190_37 rfl rfl
theorem q_190_38 : XX d 190 38 [v0, v1, v2] (.int y :: .int x :: st) A Q ↔ ¬ y = w 0 ∧ XX d 190 39 [v0, v1, v2] (.int (x / y) :: st) A Q := c_div i_190_38
theorem q_190_39 : XX d 190 39 [v0, v1, v2] (.int x :: st) A Q ↔ XX d 190 40 [v0, v1, v2] (.long x.toInt64 :: st) A Q := c_stk i_190_39 rfl
theorem q_190_40 : XX d 190 40 [v0, v1, v2] [.long lx] A Q ↔ Q (.inl (some (.long lx))) A := e_retL i_190_40 rfl
theorem q_190_41 : XX d 190 41 [v0, some (.int x), v2] st A Q ↔ XX d 190 42 [v0, some (.int x), v2] (.int x :: st) A Q := c_lcl i_190_41 rfl rfl
theorem q_190_42 : XX d 190 42 [v0, v1, some (.int x)] st A Q ↔ XX d 190 43 [v0, v1, some (.int x)] (.int x :: st) A Q := c_lcl i_190_42 rfl rfl
theorem q_190_43 : XX d 190 43 [v0, v1, v2] (.int y :: .int x :: st) A Q ↔ ¬ y = w 0 ∧ XX d 190 44 [v0, v1, v2] (.int (x - x / y * y) :: st) A Q := c_rem i_190_43
theorem q_190_44 : XX d 190 44 [v0, v1, v2] (.int x :: st) A Q ↔ if x = w 0 then XX d 190 47 [v0, v1, v2] st A Q else XX d 190 53 [v0, v1, v2] st A Q := z_ne i_190_44 rfl rfl rfl
theorem q_190_47 : XX d 190 47 [v0, v1, v2] st A Q ↔ XX d 190 50 [v0, v1, v2] (.long (wl (-9223372036854775808)) :: st) A Q := r_ld2 i_190_47 rfl
theorem q_190_50 : XX d 190 50 [v0, v1, v2] st A Q ↔ XX d 190 57 [v0, v1, v2] st A Q := c_go i_190_50 rfl rfl
theorem q_190_53 : XX d 190 53 [v0, some (.int x), v2] st A Q ↔ XX d 190 54 [v0, some (.int x), v2] (.int x :: st) A Q := c_lcl i_190_53 rfl rfl
theorem q_190_54 : XX d 190 54 [v0, v1, some (.int x)] st A Q ↔ XX d 190 55 [v0, v1, some (.int x)] (.int x :: st) A Q := c_lcl i_190_54 rfl rfl
theorem q_190_55 : XX d 190 55 [v0, v1, v2] (.int y :: .int x :: st) A Q ↔ ¬ y = w 0 ∧ XX d 190 56 [v0, v1, v2] (.int (x - x / y * y) :: st) A Q := c_rem i_190_55
theorem q_190_56 : XX d 190 56 [v0, v1, v2] (.int x :: st) A Q ↔ XX d 190 57 [v0, v1, v2] (.long x.toInt64 :: st) A Q := c_stk i_190_56 rfl
theorem q_190_57 : XX d 190 57 [v0, v1, v2] [.long lx] A Q ↔ Q (.inl (some (.long lx))) A := e_retL i_190_57 rfl
theorem q_190_58 : XX d 190 58 [v0, some (.int x), v2] st A Q ↔ XX d 190 59 [v0, some (.int x), v2] (.int x :: st) A Q := c_lcl i_190_58 rfl rfl
theorem q_190_59 : XX d 190 59 [v0, v1, some (.int x)] st A Q ↔ XX d 190 60 [v0, v1, some (.int x)] (.int x :: st) A Q := c_lcl i_190_59 rfl rfl
theorem q_190_60 : XX d 190 60 [v0, v1, v2] (.int y :: .int x :: st) A Q ↔ ¬ y = w 0 ∧ XX d 190 61 [v0, v1, v2] (.int (x - x / y * y) :: st) A Q := c_rem i_190_60
theorem q_190_61 : XX d 190 61 [v0, v1, v2] (.int x :: st) A Q ↔ XX d 190 62 [v0, v1, v2] (.long x.toInt64 :: st) A Q := c_stk i_190_61 rfl
theorem q_190_62 : XX d 190 62 [v0, v1, v2] [.long lx] A Q ↔ Q (.inl (some (.long lx))) A := e_retL i_190_62 rfl
theorem q_190_63 : XX d 190 63 [v0, some (.int x), v2] st A Q ↔ XX d 190 64 [v0, some (.int x), v2] (.int x :: st) A Q := c_lcl i_190_63 rfl rfl
theorem q_190_64 : XX d 190 64 [v0, v1, v2] (.int x :: st) A Q ↔ XX d 190 65 [v0, v1, v2] (.long x.toInt64 :: st) A Q := c_stk i_190_64 rfl
theorem q_190_65 : XX d 190 65 [v0, v1, some (.int x)] st A Q ↔ XX d 190 66 [v0, v1, some (.int x)] (.int x :: st) A Q := c_lcl i_190_65 rfl rfl
theorem q_190_66 : XX d 190 66 [v0, v1, v2] (.int x :: st) A Q ↔ XX d 190 67 [v0, v1, v2] (.long x.toInt64 :: st) A Q := c_stk i_190_66 rfl
theorem q_190_67 : XX d 190 67 [v0, v1, v2] (.long ly :: .long lx :: st) A Q ↔ XX d 190 68 [v0, v1, v2] (.long (lx - ly) :: st) A Q := c_stk i_190_67 rfl
theorem q_190_68 : XX d 190 68 [v0, v1, v2] [.long lx] A Q ↔ Q (.inl (some (.long lx))) A := e_retL i_190_68 rfl
theorem q_190_69 : XX d 190 69 [v0, some (.int x), v2] st A Q ↔ XX d 190 70 [v0, some (.int x), v2] (.int x :: st) A Q := c_lcl i_190_69 rfl rfl
theorem q_190_70 : XX d 190 70 [v0, v1, v2] (.int x :: st) A Q ↔ XX d 190 71 [v0, v1, v2] (.long x.toInt64 :: st) A Q := c_stk i_190_70 rfl
theorem q_190_71 : XX d 190 71 [v0, v1, some (.int x)] st A Q ↔ XX d 190 72 [v0, v1, some (.int x)] (.int x :: st) A Q := c_lcl i_190_71 rfl rfl
theorem q_190_72 : XX d 190 72 [v0, v1, v2] (.int x :: st) A Q ↔ XX d 190 73 [v0, v1, v2] (.long x.toInt64 :: st) A Q := c_stk i_190_72 rfl
theorem q_190_73 : XX d 190 73 [v0, v1, v2] (.long ly :: .long lx :: st) A Q ↔ XX d 190 74 [v0, v1, v2] (.long (lx + ly) :: st) A Q := c_stk i_190_73 rfl
theorem q_190_74 : XX d 190 74 [v0, v1, v2] [.long lx] A Q ↔ Q (.inl (some (.long lx))) A := e_retL i_190_74 rfl
theorem q_190_75 : XX d 190 75 [v0, v1, v2] st A Q ↔ XX d 190 78 [v0, v1, v2] (.long (wl (-9223372036854775808)) :: st) A Q := r_ld2 i_190_75 rfl
theorem q_190_78 : XX d 190 78 [v0, v1, v2] [.long lx] A Q ↔ Q (.inl (some (.long lx))) A := e_retL i_190_78 rfl
theorem q_190_e : XC d 190 [.int x0, .int x1, .int x2] A Q ↔ XX d 190 0 [some (.int x0), some (.int x1), some (.int x2)] [] A Q := Iff.rfl
theorem i_191_0 : t_ins 191 0 = some (.lload_n 2) := by decide +kernel
theorem i_191_1 : t_ins 191 1 = some (.lconst 0) := by decide +kernel
theorem i_191_2 : t_ins 191 2 = some (.lcmp) := by decide +kernel
theorem i_191_3 : t_ins 191 3 = some (.ifCond .lt 11) := by decide +kernel
theorem i_191_6 : t_ins 191 6 = some (.lload_n 2) := by decide +kernel
theorem i_191_7 : t_ins 191 7 = some (.ldc2_w 159) := by decide +kernel
theorem i_191_10 : t_ins 191 10 = some (.lcmp) := by decide +kernel
theorem i_191_11 : t_ins 191 11 = some (.ifCond .le 13) := by decide +kernel
theorem i_191_14 : t_ins 191 14 = some (.aload_n 0) := by decide +kernel
theorem i_191_15 : t_ins 191 15 = some (.lload_n 2) := by decide +kernel
theorem i_191_16 : t_ins 191 16 = some (.l2i) := by decide +kernel
theorem i_191_17 : t_ins 191 17 = some (.iconst 2) := by decide +kernel
theorem i_191_18 : t_ins 191 18 = some (.iconst (-1)) := by decide +kernel
theorem i_191_19 : t_ins 191 19 = some (.iconst (-1)) := by decide +kernel
theorem i_191_20 : t_ins 191 20 = some (.invokevirtual 265) := by decide +kernel
theorem i_191_23 : t_ins 191 23 = some (.ireturn) := by decide +kernel
theorem i_191_24 : t_ins 191 24 = some (.lload_n 2) := by decide +kernel
theorem i_191_25 : t_ins 191 25 = some (.l2i) := by decide +kernel
theorem i_191_26 : t_ins 191 26 = some (.istore 4) := by decide +kernel
theorem i_191_28 : t_ins 191 28 = some (.aload_n 0) := by decide +kernel
theorem i_191_29 : t_ins 191 29 = some (.iload 4) := by decide +kernel
theorem i_191_31 : t_ins 191 31 = some (.invokevirtual 269) := by decide +kernel
theorem i_191_34 : t_ins 191 34 = some (.ifCond .eq 13) := by decide +kernel
theorem i_191_37 : t_ins 191 37 = some (.aload_n 0) := by decide +kernel
theorem i_191_38 : t_ins 191 38 = some (.iload 4) := by decide +kernel
theorem i_191_40 : t_ins 191 40 = some (.iconst 3) := by decide +kernel
theorem i_191_41 : t_ins 191 41 = some (.iconst (-1)) := by decide +kernel
theorem i_191_42 : t_ins 191 42 = some (.iconst (-1)) := by decide +kernel
theorem i_191_43 : t_ins 191 43 = some (.invokevirtual 265) := by decide +kernel
theorem i_191_46 : t_ins 191 46 = some (.ireturn) := by decide +kernel
theorem i_191_47 : t_ins 191 47 = some (.aload_n 0) := by decide +kernel
theorem i_191_48 : t_ins 191 48 = some (.getfield 258) := by decide +kernel
theorem i_191_51 : t_ins 191 51 = some (.bipush 30) := by decide +kernel
theorem i_191_53 : t_ins 191 53 = some (.if_icmp .ne 13) := by decide +kernel
theorem i_191_56 : t_ins 191 56 = some (.aload_n 0) := by decide +kernel
theorem i_191_57 : t_ins 191 57 = some (.iload 4) := by decide +kernel
theorem i_191_59 : t_ins 191 59 = some (.iconst 4) := by decide +kernel
theorem i_191_60 : t_ins 191 60 = some (.iconst (-1)) := by decide +kernel
theorem i_191_61 : t_ins 191 61 = some (.iconst (-1)) := by decide +kernel
theorem i_191_62 : t_ins 191 62 = some (.invokevirtual 265) := by decide +kernel
theorem i_191_65 : t_ins 191 65 = some (.ireturn) := by decide +kernel
theorem i_191_66 : t_ins 191 66 = some (.aload_n 0) := by decide +kernel
theorem i_191_67 : t_ins 191 67 = some (.getfield 272) := by decide +kernel
theorem i_191_70 : t_ins 191 70 = some (.sipush 1000) := by decide +kernel
theorem i_191_73 : t_ins 191 73 = some (.if_icmp .le 14) := by decide +kernel
theorem i_191_76 : t_ins 191 76 = some (.aload_n 0) := by decide +kernel
theorem i_191_77 : t_ins 191 77 = some (.iload 4) := by decide +kernel
theorem i_191_79 : t_ins 191 79 = some (.bipush 6) := by decide +kernel
theorem i_191_81 : t_ins 191 81 = some (.iconst (-1)) := by decide +kernel
theorem i_191_82 : t_ins 191 82 = some (.iconst (-1)) := by decide +kernel
theorem i_191_83 : t_ins 191 83 = some (.invokevirtual 265) := by decide +kernel
theorem i_191_86 : t_ins 191 86 = some (.ireturn) := by decide +kernel
theorem i_191_87 : t_ins 191 87 = some (.aload_n 0) := by decide +kernel
theorem i_191_88 : t_ins 191 88 = some (.iload_n 1) := by decide +kernel
theorem i_191_89 : t_ins 191 89 = some (.iload 4) := by decide +kernel
theorem i_191_91 : t_ins 191 91 = some (.invokevirtual 275) := by decide +kernel
theorem i_191_94 : t_ins 191 94 = some (.istore 5) := by decide +kernel
theorem i_191_96 : t_ins 191 96 = some (.iload 5) := by decide +kernel
theorem i_191_98 : t_ins 191 98 = some (.iconst (-1)) := by decide +kernel
theorem i_191_99 : t_ins 191 99 = some (.if_icmp .ne 13) := by decide +kernel
theorem i_191_102 : t_ins 191 102 = some (.aload_n 0) := by decide +kernel
theorem i_191_103 : t_ins 191 103 = some (.iload 4) := by decide +kernel
theorem i_191_105 : t_ins 191 105 = some (.iconst 1) := by decide +kernel
theorem i_191_106 : t_ins 191 106 = some (.iconst (-1)) := by decide +kernel
theorem i_191_107 : t_ins 191 107 = some (.iconst (-1)) := by decide +kernel
theorem i_191_108 : t_ins 191 108 = some (.invokevirtual 265) := by decide +kernel
theorem i_191_111 : t_ins 191 111 = some (.ireturn) := by decide +kernel
theorem i_191_112 : t_ins 191 112 = some (.aload_n 0) := by decide +kernel
theorem i_191_113 : t_ins 191 113 = some (.getfield 43) := by decide +kernel
theorem i_191_116 : t_ins 191 116 = some (.aload_n 0) := by decide +kernel
theorem i_191_117 : t_ins 191 117 = some (.getfield 258) := by decide +kernel
theorem i_191_120 : t_ins 191 120 = some (.iload 4) := by decide +kernel
theorem i_191_122 : t_ins 191 122 = some (.iastore) := by decide +kernel
theorem i_191_123 : t_ins 191 123 = some (.aload_n 0) := by decide +kernel
theorem i_191_124 : t_ins 191 124 = some (.dup) := by decide +kernel
theorem i_191_125 : t_ins 191 125 = some (.getfield 258) := by decide +kernel
theorem i_191_128 : t_ins 191 128 = some (.iconst 1) := by decide +kernel
theorem i_191_129 : t_ins 191 129 = some (.iadd) := by decide +kernel
theorem i_191_130 : t_ins 191 130 = some (.putfield 258) := by decide +kernel
theorem i_191_133 : t_ins 191 133 = some (.aload_n 0) := by decide +kernel
theorem i_191_134 : t_ins 191 134 = some (.iload_n 1) := by decide +kernel
theorem i_191_135 : t_ins 191 135 = some (.iload 4) := by decide +kernel
theorem i_191_137 : t_ins 191 137 = some (.iload 5) := by decide +kernel
theorem i_191_139 : t_ins 191 139 = some (.invokevirtual 278) := by decide +kernel
theorem i_191_142 : t_ins 191 142 = some (.istore 6) := by decide +kernel
theorem i_191_144 : t_ins 191 144 = some (.aload_n 0) := by decide +kernel
theorem i_191_145 : t_ins 191 145 = some (.dup) := by decide +kernel
theorem i_191_146 : t_ins 191 146 = some (.getfield 258) := by decide +kernel
theorem i_191_149 : t_ins 191 149 = some (.iconst 1) := by decide +kernel
theorem i_191_150 : t_ins 191 150 = some (.isub) := by decide +kernel
theorem i_191_151 : t_ins 191 151 = some (.putfield 258) := by decide +kernel
theorem i_191_154 : t_ins 191 154 = some (.iload 6) := by decide +kernel
theorem i_191_156 : t_ins 191 156 = some (.ireturn) := by decide +kernel
theorem q_191_0 : XX d 191 0 [v0, v1, some (.long lx), v3, v4, v5, v6] st A Q ↔ XX d 191 1 [v0, v1, some (.long lx), v3, v4, v5, v6] (.long lx :: st) A Q := c_lcl i_191_0 rfl rfl
theorem q_191_1 : XX d 191 1 [v0, v1, v2, v3, v4, v5, v6] st A Q ↔ XX d 191 2 [v0, v1, v2, v3, v4, v5, v6] (.long (wl 0) :: st) A Q := c_stk i_191_1 rfl
theorem q_191_2 : XX d 191 2 [v0, v1, v2, v3, v4, v5, v6] (.long ly :: .long lx :: st) A Q ↔ XX d 191 3 [v0, v1, v2, v3, v4, v5, v6] (.int (lg_cmp lx ly) :: st) A Q := c_stk i_191_2 rfl
theorem q_191_3 : XX d 191 3 [v0, v1, v2, v3, v4, v5, v6] (.int x :: st) A Q ↔ if x < w 0 then XX d 191 14 [v0, v1, v2, v3, v4, v5, v6] st A Q else XX d 191 6 [v0, v1, v2, v3, v4, v5, v6] st A Q := z_lt i_191_3 rfl rfl rfl
theorem q_191_6 : XX d 191 6 [v0, v1, some (.long lx), v3, v4, v5, v6] st A Q ↔ XX d 191 7 [v0, v1, some (.long lx), v3, v4, v5, v6] (.long lx :: st) A Q := c_lcl i_191_6 rfl rfl
theorem q_191_7 : XX d 191 7 [v0, v1, v2, v3, v4, v5, v6] st A Q ↔ XX d 191 10 [v0, v1, v2, v3, v4, v5, v6] (.long (wl 999999999) :: st) A Q := r_ld2 i_191_7 rfl
theorem q_191_10 : XX d 191 10 [v0, v1, v2, v3, v4, v5, v6] (.long ly :: .long lx :: st) A Q ↔ XX d 191 11 [v0, v1, v2, v3, v4, v5, v6] (.int (lg_cmp lx ly) :: st) A Q := c_stk i_191_10 rfl
theorem q_191_11 : XX d 191 11 [v0, v1, v2, v3, v4, v5, v6] (.int x :: st) A Q ↔ if w 0 < x then XX d 191 14 [v0, v1, v2, v3, v4, v5, v6] st A Q else XX d 191 24 [v0, v1, v2, v3, v4, v5, v6] st A Q := z_le i_191_11 rfl rfl rfl
theorem q_191_14 : XX d 191 14 [some (.ref a), v1, v2, v3, v4, v5, v6] st A Q ↔ XX d 191 15 [some (.ref a), v1, v2, v3, v4, v5, v6] (.ref a :: st) A Q := c_lcl i_191_14 rfl rfl
theorem q_191_15 : XX d 191 15 [v0, v1, some (.long lx), v3, v4, v5, v6] st A Q ↔ XX d 191 16 [v0, v1, some (.long lx), v3, v4, v5, v6] (.long lx :: st) A Q := c_lcl i_191_15 rfl rfl
theorem q_191_16 : XX d 191 16 [v0, v1, v2, v3, v4, v5, v6] (.long lx :: st) A Q ↔ XX d 191 17 [v0, v1, v2, v3, v4, v5, v6] (.int lx.toInt32 :: st) A Q := c_stk i_191_16 rfl
theorem q_191_17 : XX d 191 17 [v0, v1, v2, v3, v4, v5, v6] st A Q ↔ XX d 191 18 [v0, v1, v2, v3, v4, v5, v6] (.int (w 2) :: st) A Q := c_stk i_191_17 rfl
theorem q_191_18 : XX d 191 18 [v0, v1, v2, v3, v4, v5, v6] st A Q ↔ XX d 191 19 [v0, v1, v2, v3, v4, v5, v6] (.int (w (-1)) :: st) A Q := c_stk i_191_18 rfl
theorem q_191_19 : XX d 191 19 [v0, v1, v2, v3, v4, v5, v6] st A Q ↔ XX d 191 20 [v0, v1, v2, v3, v4, v5, v6] (.int (w (-1)) :: st) A Q := c_stk i_191_19 rfl
theorem q_191_20 : XX (d + 1) 191 20 [v0, v1, v2, v3, v4, v5, v6] [.int x4, .int x3, .int x2, .int x1, .ref a0] (mk S I L R G) Q ↔ S a0 = some (.inr 12) ∧ XC d 188 [.ref a0, .int x1, .int x2, .int x3, .int x4] (mk S I L R G) (XK (d + 1) 191 20 [v0, v1, v2, v3, v4, v5, v6] [] Q) := c_callV i_191_20 rfl rfl rfl rfl (Nat.le_of_ble_eq_true rfl) (Nat.le_of_ble_eq_true rfl) rfl
theorem q_191_23 : XX d 191 23 [v0, v1, v2, v3, v4, v5, v6] [.int x] A Q ↔ (x = w 0 ∨ x = w 1) ∧ Q (.inl (some (.int x))) A := e_retZ i_191_23 rfl
theorem q_191_24 : XX d 191 24 [v0, v1, some (.long lx), v3, v4, v5, v6] st A Q ↔ XX d 191 25 [v0, v1, some (.long lx), v3, v4, v5, v6] (.long lx :: st) A Q := c_lcl i_191_24 rfl rfl
theorem q_191_25 : XX d 191 25 [v0, v1, v2, v3, v4, v5, v6] (.long lx :: st) A Q ↔ XX d 191 26 [v0, v1, v2, v3, v4, v5, v6] (.int lx.toInt32 :: st) A Q := c_stk i_191_25 rfl
theorem q_191_26 : XX d 191 26 [v0, v1, v2, none, v4, v5, v6] (.int x :: st) A Q ↔ XX d 191 28 [v0, v1, v2, none, some (.int x), v5, v6] st A Q := c_lcl i_191_26 rfl rfl
theorem q_191_28 : XX d 191 28 [some (.ref a), v1, v2, v3, v4, v5, v6] st A Q ↔ XX d 191 29 [some (.ref a), v1, v2, v3, v4, v5, v6] (.ref a :: st) A Q := c_lcl i_191_28 rfl rfl
theorem q_191_29 : XX d 191 29 [v0, v1, v2, v3, some (.int x), v5, v6] st A Q ↔ XX d 191 31 [v0, v1, v2, v3, some (.int x), v5, v6] (.int x :: st) A Q := c_lcl i_191_29 rfl rfl
theorem q_191_31 : XX (d + 1) 191 31 [v0, v1, v2, v3, v4, v5, v6] [.int x1, .ref a0] (mk S I L R G) Q ↔ S a0 = some (.inr 12) ∧ XC d 189 [.ref a0, .int x1] (mk S I L R G) (XK (d + 1) 191 31 [v0, v1, v2, v3, v4, v5, v6] [] Q) := c_callV i_191_31 rfl rfl rfl rfl (Nat.le_of_ble_eq_true rfl) (Nat.le_of_ble_eq_true rfl) rfl
theorem q_191_34 : XX d 191 34 [v0, v1, v2, v3, v4, v5, v6] (.int x :: st) A Q ↔ if x = w 0 then XX d 191 47 [v0, v1, v2, v3, v4, v5, v6] st A Q else XX d 191 37 [v0, v1, v2, v3, v4, v5, v6] st A Q := z_eq i_191_34 rfl rfl rfl
theorem q_191_37 : XX d 191 37 [some (.ref a), v1, v2, v3, v4, v5, v6] st A Q ↔ XX d 191 38 [some (.ref a), v1, v2, v3, v4, v5, v6] (.ref a :: st) A Q := c_lcl i_191_37 rfl rfl
theorem q_191_38 : XX d 191 38 [v0, v1, v2, v3, some (.int x), v5, v6] st A Q ↔ XX d 191 40 [v0, v1, v2, v3, some (.int x), v5, v6] (.int x :: st) A Q := c_lcl i_191_38 rfl rfl
theorem q_191_40 : XX d 191 40 [v0, v1, v2, v3, v4, v5, v6] st A Q ↔ XX d 191 41 [v0, v1, v2, v3, v4, v5, v6] (.int (w 3) :: st) A Q := c_stk i_191_40 rfl
theorem q_191_41 : XX d 191 41 [v0, v1, v2, v3, v4, v5, v6] st A Q ↔ XX d 191 42 [v0, v1, v2, v3, v4, v5, v6] (.int (w (-1)) :: st) A Q := c_stk i_191_41 rfl
theorem q_191_42 : XX d 191 42 [v0, v1, v2, v3, v4, v5, v6] st A Q ↔ XX d 191 43 [v0, v1, v2, v3, v4, v5, v6] (.int (w (-1)) :: st) A Q := c_stk i_191_42 rfl
theorem q_191_43 : XX (d + 1) 191 43 [v0, v1, v2, v3, v4, v5, v6] [.int x4, .int x3, .int x2, .int x1, .ref a0] (mk S I L R G) Q ↔ S a0 = some (.inr 12) ∧ XC d 188 [.ref a0, .int x1, .int x2, .int x3, .int x4] (mk S I L R G) (XK (d + 1) 191 43 [v0, v1, v2, v3, v4, v5, v6] [] Q) := c_callV i_191_43 rfl rfl rfl rfl (Nat.le_of_ble_eq_true rfl) (Nat.le_of_ble_eq_true rfl) rfl
theorem q_191_46 : XX d 191 46 [v0, v1, v2, v3, v4, v5, v6] [.int x] A Q ↔ (x = w 0 ∨ x = w 1) ∧ Q (.inl (some (.int x))) A := e_retZ i_191_46 rfl
theorem q_191_47 : XX d 191 47 [some (.ref a), v1, v2, v3, v4, v5, v6] st A Q ↔ XX d 191 48 [some (.ref a), v1, v2, v3, v4, v5, v6] (.ref a :: st) A Q := c_lcl i_191_47 rfl rfl
theorem q_191_48 : XX d 191 48 [v0, v1, v2, v3, v4, v5, v6] (.ref a :: st) (mk S I L R G) Q ↔ S a = some (.inr 12) ∧ XX d 191 51 [v0, v1, v2, v3, v4, v5, v6] (.int (I a 17) :: st) (mk S I L R G) Q := r_gf i_191_48 rfl (by decide) rfl
theorem q_191_51 : XX d 191 51 [v0, v1, v2, v3, v4, v5, v6] st A Q ↔ XX d 191 53 [v0, v1, v2, v3, v4, v5, v6] (.int (w 30) :: st) A Q := c_stk i_191_51 rfl
theorem q_191_53 : XX d 191 53 [v0, v1, v2, v3, v4, v5, v6] (.int y :: .int x :: st) A Q ↔ if x = y then XX d 191 56 [v0, v1, v2, v3, v4, v5, v6] st A Q else XX d 191 66 [v0, v1, v2, v3, v4, v5, v6] st A Q := b_ne i_191_53 rfl rfl rfl
theorem q_191_56 : XX d 191 56 [some (.ref a), v1, v2, v3, v4, v5, v6] st A Q ↔ XX d 191 57 [some (.ref a), v1, v2, v3, v4, v5, v6] (.ref a :: st) A Q := c_lcl i_191_56 rfl rfl
theorem q_191_57 : XX d 191 57 [v0, v1, v2, v3, some (.int x), v5, v6] st A Q ↔ XX d 191 59 [v0, v1, v2, v3, some (.int x), v5, v6] (.int x :: st) A Q := c_lcl i_191_57 rfl rfl
theorem q_191_59 : XX d 191 59 [v0, v1, v2, v3, v4, v5, v6] st A Q ↔ XX d 191 60 [v0, v1, v2, v3, v4, v5, v6] (.int (w 4) :: st) A Q := c_stk i_191_59 rfl
theorem q_191_60 : XX d 191 60 [v0, v1, v2, v3, v4, v5, v6] st A Q ↔ XX d 191 61 [v0, v1, v2, v3, v4, v5, v6] (.int (w (-1)) :: st) A Q := c_stk i_191_60 rfl
theorem q_191_61 : XX d 191 61 [v0, v1, v2, v3, v4, v5, v6] st A Q ↔ XX d 191 62 [v0, v1, v2, v3, v4, v5, v6] (.int (w (-1)) :: st) A Q := c_stk i_191_61 rfl
theorem q_191_62 : XX (d + 1) 191 62 [v0, v1, v2, v3, v4, v5, v6] [.int x4, .int x3, .int x2, .int x1, .ref a0] (mk S I L R G) Q ↔ S a0 = some (.inr 12) ∧ XC d 188 [.ref a0, .int x1, .int x2, .int x3, .int x4] (mk S I L R G) (XK (d + 1) 191 62 [v0, v1, v2, v3, v4, v5, v6] [] Q) := c_callV i_191_62 rfl rfl rfl rfl (Nat.le_of_ble_eq_true rfl) (Nat.le_of_ble_eq_true rfl) rfl
theorem q_191_65 : XX d 191 65 [v0, v1, v2, v3, v4, v5, v6] [.int x] A Q ↔ (x = w 0 ∨ x = w 1) ∧ Q (.inl (some (.int x))) A := e_retZ i_191_65 rfl
theorem q_191_66 : XX d 191 66 [some (.ref a), v1, v2, v3, v4, v5, v6] st A Q ↔ XX d 191 67 [some (.ref a), v1, v2, v3, v4, v5, v6] (.ref a :: st) A Q := c_lcl i_191_66 rfl rfl
theorem q_191_67 : XX d 191 67 [v0, v1, v2, v3, v4, v5, v6] (.ref a :: st) (mk S I L R G) Q ↔ S a = some (.inr 12) ∧ XX d 191 70 [v0, v1, v2, v3, v4, v5, v6] (.int (I a 18) :: st) (mk S I L R G) Q := r_gf i_191_67 rfl (by decide) rfl
theorem q_191_70 : XX d 191 70 [v0, v1, v2, v3, v4, v5, v6] st A Q ↔ XX d 191 73 [v0, v1, v2, v3, v4, v5, v6] (.int (w 1000) :: st) A Q := c_stk i_191_70 rfl
theorem q_191_73 : XX d 191 73 [v0, v1, v2, v3, v4, v5, v6] (.int y :: .int x :: st) A Q ↔ if y < x then XX d 191 76 [v0, v1, v2, v3, v4, v5, v6] st A Q else XX d 191 87 [v0, v1, v2, v3, v4, v5, v6] st A Q := b_le i_191_73 rfl rfl rfl
theorem q_191_76 : XX d 191 76 [some (.ref a), v1, v2, v3, v4, v5, v6] st A Q ↔ XX d 191 77 [some (.ref a), v1, v2, v3, v4, v5, v6] (.ref a :: st) A Q := c_lcl i_191_76 rfl rfl
theorem q_191_77 : XX d 191 77 [v0, v1, v2, v3, some (.int x), v5, v6] st A Q ↔ XX d 191 79 [v0, v1, v2, v3, some (.int x), v5, v6] (.int x :: st) A Q := c_lcl i_191_77 rfl rfl
theorem q_191_79 : XX d 191 79 [v0, v1, v2, v3, v4, v5, v6] st A Q ↔ XX d 191 81 [v0, v1, v2, v3, v4, v5, v6] (.int (w 6) :: st) A Q := c_stk i_191_79 rfl
theorem q_191_81 : XX d 191 81 [v0, v1, v2, v3, v4, v5, v6] st A Q ↔ XX d 191 82 [v0, v1, v2, v3, v4, v5, v6] (.int (w (-1)) :: st) A Q := c_stk i_191_81 rfl
theorem q_191_82 : XX d 191 82 [v0, v1, v2, v3, v4, v5, v6] st A Q ↔ XX d 191 83 [v0, v1, v2, v3, v4, v5, v6] (.int (w (-1)) :: st) A Q := c_stk i_191_82 rfl
theorem q_191_83 : XX (d + 1) 191 83 [v0, v1, v2, v3, v4, v5, v6] [.int x4, .int x3, .int x2, .int x1, .ref a0] (mk S I L R G) Q ↔ S a0 = some (.inr 12) ∧ XC d 188 [.ref a0, .int x1, .int x2, .int x3, .int x4] (mk S I L R G) (XK (d + 1) 191 83 [v0, v1, v2, v3, v4, v5, v6] [] Q) := c_callV i_191_83 rfl rfl rfl rfl (Nat.le_of_ble_eq_true rfl) (Nat.le_of_ble_eq_true rfl) rfl
theorem q_191_86 : XX d 191 86 [v0, v1, v2, v3, v4, v5, v6] [.int x] A Q ↔ (x = w 0 ∨ x = w 1) ∧ Q (.inl (some (.int x))) A := e_retZ i_191_86 rfl
theorem q_191_87 : XX d 191 87 [some (.ref a), v1, v2, v3, v4, v5, v6] st A Q ↔ XX d 191 88 [some (.ref a), v1, v2, v3, v4, v5, v6] (.ref a :: st) A Q := c_lcl i_191_87 rfl rfl
theorem q_191_88 : XX d 191 88 [v0, some (.int x), v2, v3, v4, v5, v6] st A Q ↔ XX d 191 89 [v0, some (.int x), v2, v3, v4, v5, v6] (.int x :: st) A Q := c_lcl i_191_88 rfl rfl
theorem q_191_89 : XX d 191 89 [v0, v1, v2, v3, some (.int x), v5, v6] st A Q ↔ XX d 191 91 [v0, v1, v2, v3, some (.int x), v5, v6] (.int x :: st) A Q := c_lcl i_191_89 rfl rfl
theorem q_191_91 : XX (d + 1) 191 91 [v0, v1, v2, v3, v4, v5, v6] [.int x2, .int x1, .ref a0] (mk S I L R G) Q ↔ S a0 = some (.inr 12) ∧ XC d 187 [.ref a0, .int x1, .int x2] (mk S I L R G) (XK (d + 1) 191 91 [v0, v1, v2, v3, v4, v5, v6] [] Q) := c_callV i_191_91 rfl rfl rfl rfl (Nat.le_of_ble_eq_true rfl) (Nat.le_of_ble_eq_true rfl) rfl
theorem q_191_94 : XX d 191 94 [v0, v1, v2, v3, some (.int z), v5, v6] (.int x :: st) A Q ↔ XX d 191 96 [v0, v1, v2, v3, some (.int z), some (.int x), v6] st A Q := c_lcl i_191_94 rfl rfl
theorem q_191_96 : XX d 191 96 [v0, v1, v2, v3, v4, some (.int x), v6] st A Q ↔ XX d 191 98 [v0, v1, v2, v3, v4, some (.int x), v6] (.int x :: st) A Q := c_lcl i_191_96 rfl rfl
theorem q_191_98 : XX d 191 98 [v0, v1, v2, v3, v4, v5, v6] st A Q ↔ XX d 191 99 [v0, v1, v2, v3, v4, v5, v6] (.int (w (-1)) :: st) A Q := c_stk i_191_98 rfl
theorem q_191_99 : XX d 191 99 [v0, v1, v2, v3, v4, v5, v6] (.int y :: .int x :: st) A Q ↔ if x = y then XX d 191 102 [v0, v1, v2, v3, v4, v5, v6] st A Q else XX d 191 112 [v0, v1, v2, v3, v4, v5, v6] st A Q := b_ne i_191_99 rfl rfl rfl
theorem q_191_102 : XX d 191 102 [some (.ref a), v1, v2, v3, v4, v5, v6] st A Q ↔ XX d 191 103 [some (.ref a), v1, v2, v3, v4, v5, v6] (.ref a :: st) A Q := c_lcl i_191_102 rfl rfl
theorem q_191_103 : XX d 191 103 [v0, v1, v2, v3, some (.int x), v5, v6] st A Q ↔ XX d 191 105 [v0, v1, v2, v3, some (.int x), v5, v6] (.int x :: st) A Q := c_lcl i_191_103 rfl rfl
theorem q_191_105 : XX d 191 105 [v0, v1, v2, v3, v4, v5, v6] st A Q ↔ XX d 191 106 [v0, v1, v2, v3, v4, v5, v6] (.int (w 1) :: st) A Q := c_stk i_191_105 rfl
theorem q_191_106 : XX d 191 106 [v0, v1, v2, v3, v4, v5, v6] st A Q ↔ XX d 191 107 [v0, v1, v2, v3, v4, v5, v6] (.int (w (-1)) :: st) A Q := c_stk i_191_106 rfl
theorem q_191_107 : XX d 191 107 [v0, v1, v2, v3, v4, v5, v6] st A Q ↔ XX d 191 108 [v0, v1, v2, v3, v4, v5, v6] (.int (w (-1)) :: st) A Q := c_stk i_191_107 rfl
theorem q_191_108 : XX (d + 1) 191 108 [v0, v1, v2, v3, v4, v5, v6] [.int x4, .int x3, .int x2, .int x1, .ref a0] (mk S I L R G) Q ↔ S a0 = some (.inr 12) ∧ XC d 188 [.ref a0, .int x1, .int x2, .int x3, .int x4] (mk S I L R G) (XK (d + 1) 191 108 [v0, v1, v2, v3, v4, v5, v6] [] Q) := c_callV i_191_108 rfl rfl rfl rfl (Nat.le_of_ble_eq_true rfl) (Nat.le_of_ble_eq_true rfl) rfl
theorem q_191_111 : XX d 191 111 [v0, v1, v2, v3, v4, v5, v6] [.int x] A Q ↔ (x = w 0 ∨ x = w 1) ∧ Q (.inl (some (.int x))) A := e_retZ i_191_111 rfl
theorem q_191_112 : XX d 191 112 [some (.ref a), v1, v2, v3, v4, v5, v6] st A Q ↔ XX d 191 113 [some (.ref a), v1, v2, v3, v4, v5, v6] (.ref a :: st) A Q := c_lcl i_191_112 rfl rfl
theorem q_191_113 : XX d 191 113 [v0, v1, v2, v3, v4, v5, v6] (.ref a :: st) (mk S I L R G) Q ↔ S a = some (.inr 12) ∧ XX d 191 116 [v0, v1, v2, v3, v4, v5, v6] (.ref (a + 6542) :: st) (mk S I L R G) Q := r_gf i_191_113 rfl (by decide) rfl
theorem q_191_116 : XX d 191 116 [some (.ref a), v1, v2, v3, v4, v5, v6] st A Q ↔ XX d 191 117 [some (.ref a), v1, v2, v3, v4, v5, v6] (.ref a :: st) A Q := c_lcl i_191_116 rfl rfl
theorem q_191_117 : XX d 191 117 [v0, v1, v2, v3, v4, v5, v6] (.ref a :: st) (mk S I L R G) Q ↔ S a = some (.inr 12) ∧ XX d 191 120 [v0, v1, v2, v3, v4, v5, v6] (.int (I a 17) :: st) (mk S I L R G) Q := r_gf i_191_117 rfl (by decide) rfl
theorem q_191_120 : XX d 191 120 [v0, v1, v2, v3, some (.int x), v5, v6] st A Q ↔ XX d 191 122 [v0, v1, v2, v3, some (.int x), v5, v6] (.int x :: st) A Q := c_lcl i_191_120 rfl rfl
theorem q_191_122 : XX d 191 122 [v0, v1, v2, v3, v4, v5, v6] (.int y :: .int x :: .ref a :: st) (mk S I L R G) Q ↔ inA (S a) ok_0 x ∧ XX d 191 123 [v0, v1, v2, v3, v4, v5, v6] st (mk S (wr I a (up (I a) (ix x) y)) L R G) Q := r_ias i_191_122
theorem q_191_123 : XX d 191 123 [some (.ref a), v1, v2, v3, v4, v5, v6] st A Q ↔ XX d 191 124 [some (.ref a), v1, v2, v3, v4, v5, v6] (.ref a :: st) A Q := c_lcl i_191_123 rfl rfl
theorem q_191_124 : XX d 191 124 [v0, v1, v2, v3, v4, v5, v6] (.ref a1 :: st) A Q ↔ XX d 191 125 [v0, v1, v2, v3, v4, v5, v6] (.ref a1 :: .ref a1 :: st) A Q := c_stk i_191_124 rfl
theorem q_191_125 : XX d 191 125 [v0, v1, v2, v3, v4, v5, v6] (.ref a :: st) (mk S I L R G) Q ↔ S a = some (.inr 12) ∧ XX d 191 128 [v0, v1, v2, v3, v4, v5, v6] (.int (I a 17) :: st) (mk S I L R G) Q := r_gf i_191_125 rfl (by decide) rfl
theorem q_191_128 : XX d 191 128 [v0, v1, v2, v3, v4, v5, v6] st A Q ↔ XX d 191 129 [v0, v1, v2, v3, v4, v5, v6] (.int (w 1) :: st) A Q := c_stk i_191_128 rfl
theorem q_191_129 : XX d 191 129 [v0, v1, v2, v3, v4, v5, v6] (.int y :: .int x :: st) A Q ↔ XX d 191 130 [v0, v1, v2, v3, v4, v5, v6] (.int (x + y) :: st) A Q := c_stk i_191_129 rfl
theorem q_191_130 : XX d 191 130 [v0, v1, v2, v3, v4, v5, v6] (.int x :: .ref a :: st) (mk S I L R G) Q ↔ S a = some (.inr 12) ∧ XX d 191 133 [v0, v1, v2, v3, v4, v5, v6] st (mk S (wr I a (up (I a) 17 x)) L R G) Q := r_pf i_191_130 rfl (by decide) rfl rfl rfl
theorem q_191_133 : XX d 191 133 [some (.ref a), v1, v2, v3, v4, v5, v6] st A Q ↔ XX d 191 134 [some (.ref a), v1, v2, v3, v4, v5, v6] (.ref a :: st) A Q := c_lcl i_191_133 rfl rfl
theorem q_191_134 : XX d 191 134 [v0, some (.int x), v2, v3, v4, v5, v6] st A Q ↔ XX d 191 135 [v0, some (.int x), v2, v3, v4, v5, v6] (.int x :: st) A Q := c_lcl i_191_134 rfl rfl
theorem q_191_135 : XX d 191 135 [v0, v1, v2, v3, some (.int x), v5, v6] st A Q ↔ XX d 191 137 [v0, v1, v2, v3, some (.int x), v5, v6] (.int x :: st) A Q := c_lcl i_191_135 rfl rfl
theorem q_191_137 : XX d 191 137 [v0, v1, v2, v3, v4, some (.int x), v6] st A Q ↔ XX d 191 139 [v0, v1, v2, v3, v4, some (.int x), v6] (.int x :: st) A Q := c_lcl i_191_137 rfl rfl
theorem q_191_139 : XX (d + 1) 191 139 [v0, v1, v2, v3, v4, v5, v6] [.int x3, .int x2, .int x1, .ref a0] (mk S I L R G) Q ↔ S a0 = some (.inr 12) ∧ XC d 192 [.ref a0, .int x1, .int x2, .int x3] (mk S I L R G) (XK (d + 1) 191 139 [v0, v1, v2, v3, v4, v5, v6] [] Q) := c_callV i_191_139 rfl rfl rfl rfl (Nat.le_of_ble_eq_true rfl) (Nat.le_of_ble_eq_true rfl) rfl
theorem q_191_142 : XX d 191 142 [v0, v1, v2, v3, v4, some (.int z), v6] (.int x :: st) A Q ↔ XX d 191 144 [v0, v1, v2, v3, v4, some (.int z), some (.int x)] st A Q := c_lcl i_191_142 rfl rfl
theorem q_191_144 : XX d 191 144 [some (.ref a), v1, v2, v3, v4, v5, v6] st A Q ↔ XX d 191 145 [some (.ref a), v1, v2, v3, v4, v5, v6] (.ref a :: st) A Q := c_lcl i_191_144 rfl rfl
theorem q_191_145 : XX d 191 145 [v0, v1, v2, v3, v4, v5, v6] (.ref a1 :: st) A Q ↔ XX d 191 146 [v0, v1, v2, v3, v4, v5, v6] (.ref a1 :: .ref a1 :: st) A Q := c_stk i_191_145 rfl
theorem q_191_146 : XX d 191 146 [v0, v1, v2, v3, v4, v5, v6] (.ref a :: st) (mk S I L R G) Q ↔ S a = some (.inr 12) ∧ XX d 191 149 [v0, v1, v2, v3, v4, v5, v6] (.int (I a 17) :: st) (mk S I L R G) Q := r_gf i_191_146 rfl (by decide) rfl
theorem q_191_149 : XX d 191 149 [v0, v1, v2, v3, v4, v5, v6] st A Q ↔ XX d 191 150 [v0, v1, v2, v3, v4, v5, v6] (.int (w 1) :: st) A Q := c_stk i_191_149 rfl
theorem q_191_150 : XX d 191 150 [v0, v1, v2, v3, v4, v5, v6] (.int y :: .int x :: st) A Q ↔ XX d 191 151 [v0, v1, v2, v3, v4, v5, v6] (.int (x - y) :: st) A Q := c_stk i_191_150 rfl
theorem q_191_151 : XX d 191 151 [v0, v1, v2, v3, v4, v5, v6] (.int x :: .ref a :: st) (mk S I L R G) Q ↔ S a = some (.inr 12) ∧ XX d 191 154 [v0, v1, v2, v3, v4, v5, v6] st (mk S (wr I a (up (I a) 17 x)) L R G) Q := r_pf i_191_151 rfl (by decide) rfl rfl rfl
theorem q_191_154 : XX d 191 154 [v0, v1, v2, v3, v4, v5, some (.int x)] st A Q ↔ XX d 191 156 [v0, v1, v2, v3, v4, v5, some (.int x)] (.int x :: st) A Q := c_lcl i_191_154 rfl rfl
theorem q_191_156 : XX d 191 156 [v0, v1, v2, v3, v4, v5, v6] [.int x] A Q ↔ (x = w 0 ∨ x = w 1) ∧ Q (.inl (some (.int x))) A := e_retZ i_191_156 rfl
theorem q_191_e : XC d 191 [.ref a0, .int x1, .long l2] A Q ↔ XX d 191 0 [some (.ref a0), some (.int x1), some (.long l2), none, none, none, none] [] A Q := Iff.rfl
end

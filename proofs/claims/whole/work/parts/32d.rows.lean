/-! rows of methods 80 to 98 -/
section
variable {d : Nat} {Q : XO → Hp → Prop} {S : SH} {I : MI} {L : ML} {R : MR} {G : MG} {A : Hp} {st : List Value} {x y z x0 x1 x2 x3 x4 x5 x6 x7 x8 x9 : Int32} {lx ly l0 l1 l2 l3 l4 l5 l6 : Int64} {t kk jj a b a0 a1 a2 a3 a4 a5 a6 a7 a8 a9 : Nat} {o o0 o1 o2 o3 o4 : Option Nat} {v0 v1 v2 v3 v4 v5 v6 v7 v8 v9 v10 v11 v12 v13 v14 v15 v16 v17 v18 v19 v20 : Option Value}
theorem i_80_0 : t_ins 80 0 = some (.aload_n 0) := by decide +kernel
theorem i_80_1 : t_ins 80 1 = some (.invokespecial 3) := by decide +kernel
theorem i_80_4 : t_ins 80 4 = some (.aload_n 0) := by decide +kernel
theorem i_80_5 : t_ins 80 5 = some (.new 9) := by decide +kernel
theorem i_80_8 : t_ins 80 8 = some (.dup) := by decide +kernel
theorem i_80_9 : t_ins 80 9 = some (.invokespecial 11) := by decide +kernel
theorem i_80_12 : t_ins 80 12 = some (.putfield 12) := by decide +kernel
theorem i_80_15 : t_ins 80 15 = some (.aload_n 0) := by decide +kernel
theorem i_80_16 : t_ins 80 16 = some (.new 18) := by decide +kernel
theorem i_80_19 : t_ins 80 19 = some (.dup) := by decide +kernel
theorem i_80_20 : t_ins 80 20 = some (.invokespecial 20) := by decide +kernel
theorem i_80_23 : t_ins 80 23 = some (.putfield 21) := by decide +kernel
theorem i_80_26 : t_ins 80 26 = some (.aload_n 0) := by decide +kernel
theorem i_80_27 : t_ins 80 27 = some (.bipush 30) := by decide +kernel
theorem i_80_29 : t_ins 80 29 = some (.anewarray 25) := by decide +kernel
theorem i_80_32 : t_ins 80 32 = some (.putfield 27) := by decide +kernel
theorem i_80_35 : t_ins 80 35 = some (.aload_n 0) := by decide +kernel
theorem i_80_36 : t_ins 80 36 = some (.iconst 0) := by decide +kernel
theorem i_80_37 : t_ins 80 37 = some (.putfield 31) := by decide +kernel
theorem i_80_40 : t_ins 80 40 = some (.aload_n 0) := by decide +kernel
theorem i_80_41 : t_ins 80 41 = some (.iconst 0) := by decide +kernel
theorem i_80_42 : t_ins 80 42 = some (.putfield 35) := by decide +kernel
theorem i_80_45 : t_ins 80 45 = some (.aload_n 0) := by decide +kernel
theorem i_80_46 : t_ins 80 46 = some (.bipush 30) := by decide +kernel
theorem i_80_48 : t_ins 80 48 = some (.newarray .int) := by decide +kernel
theorem i_80_50 : t_ins 80 50 = some (.putfield 38) := by decide +kernel
theorem i_80_53 : t_ins 80 53 = some (.aload_n 0) := by decide +kernel
theorem i_80_54 : t_ins 80 54 = some (.sipush 3000) := by decide +kernel
theorem i_80_57 : t_ins 80 57 = some (.newarray .byte) := by decide +kernel
theorem i_80_59 : t_ins 80 59 = some (.putfield 42) := by decide +kernel
theorem i_80_62 : t_ins 80 62 = some (.aload_n 0) := by decide +kernel
theorem i_80_63 : t_ins 80 63 = some (.bipush 30) := by decide +kernel
theorem i_80_65 : t_ins 80 65 = some (.newarray .int) := by decide +kernel
theorem i_80_67 : t_ins 80 67 = some (.putfield 46) := by decide +kernel
theorem i_80_70 : t_ins 80 70 = some (.aload_n 0) := by decide +kernel
theorem i_80_71 : t_ins 80 71 = some (.bipush 30) := by decide +kernel
theorem i_80_73 : t_ins 80 73 = some (.newarray .int) := by decide +kernel
theorem i_80_75 : t_ins 80 75 = some (.putfield 49) := by decide +kernel
theorem i_80_78 : t_ins 80 78 = some (.aload_n 0) := by decide +kernel
theorem i_80_79 : t_ins 80 79 = some (.iconst 0) := by decide +kernel
theorem i_80_80 : t_ins 80 80 = some (.putfield 52) := by decide +kernel
theorem i_80_83 : t_ins 80 83 = some (.aload_n 0) := by decide +kernel
theorem i_80_84 : t_ins 80 84 = some (.iconst 0) := by decide +kernel
theorem i_80_85 : t_ins 80 85 = some (.putfield 55) := by decide +kernel
theorem i_80_88 : t_ins 80 88 = some (.return_) := by decide +kernel
theorem q_80_0 : XX d 80 0 [some (.ref a)] st A Q ↔ XX d 80 1 [some (.ref a)] (.ref a :: st) A Q := c_lcl i_80_0 rfl rfl
theorem q_80_4 : XX d 80 4 [some (.ref a)] st A Q ↔ XX d 80 5 [some (.ref a)] (.ref a :: st) A Q := c_lcl i_80_4 rfl rfl
theorem q_80_8 : XX d 80 8 [v0] (.ref a1 :: st) A Q ↔ XX d 80 9 [v0] (.ref a1 :: .ref a1 :: st) A Q := c_stk i_80_8 rfl
theorem q_80_15 : XX d 80 15 [some (.ref a)] st A Q ↔ XX d 80 16 [some (.ref a)] (.ref a :: st) A Q := c_lcl i_80_15 rfl rfl
theorem q_80_19 : XX d 80 19 [v0] (.ref a1 :: st) A Q ↔ XX d 80 20 [v0] (.ref a1 :: .ref a1 :: st) A Q := c_stk i_80_19 rfl
theorem q_80_26 : XX d 80 26 [some (.ref a)] st A Q ↔ XX d 80 27 [some (.ref a)] (.ref a :: st) A Q := c_lcl i_80_26 rfl rfl
theorem q_80_27 : XX d 80 27 [v0] st A Q ↔ XX d 80 29 [v0] (.int (w 30) :: st) A Q := c_stk i_80_27 rfl
theorem q_80_35 : XX d 80 35 [some (.ref a)] st A Q ↔ XX d 80 36 [some (.ref a)] (.ref a :: st) A Q := c_lcl i_80_35 rfl rfl
theorem q_80_36 : XX d 80 36 [v0] st A Q ↔ XX d 80 37 [v0] (.int (w 0) :: st) A Q := c_stk i_80_36 rfl
theorem q_80_40 : XX d 80 40 [some (.ref a)] st A Q ↔ XX d 80 41 [some (.ref a)] (.ref a :: st) A Q := c_lcl i_80_40 rfl rfl
theorem q_80_41 : XX d 80 41 [v0] st A Q ↔ XX d 80 42 [v0] (.int (w 0) :: st) A Q := c_stk i_80_41 rfl
theorem q_80_45 : XX d 80 45 [some (.ref a)] st A Q ↔ XX d 80 46 [some (.ref a)] (.ref a :: st) A Q := c_lcl i_80_45 rfl rfl
theorem q_80_46 : XX d 80 46 [v0] st A Q ↔ XX d 80 48 [v0] (.int (w 30) :: st) A Q := c_stk i_80_46 rfl
theorem q_80_53 : XX d 80 53 [some (.ref a)] st A Q ↔ XX d 80 54 [some (.ref a)] (.ref a :: st) A Q := c_lcl i_80_53 rfl rfl
theorem q_80_54 : XX d 80 54 [v0] st A Q ↔ XX d 80 57 [v0] (.int (w 3000) :: st) A Q := c_stk i_80_54 rfl
theorem q_80_62 : XX d 80 62 [some (.ref a)] st A Q ↔ XX d 80 63 [some (.ref a)] (.ref a :: st) A Q := c_lcl i_80_62 rfl rfl
theorem q_80_63 : XX d 80 63 [v0] st A Q ↔ XX d 80 65 [v0] (.int (w 30) :: st) A Q := c_stk i_80_63 rfl
theorem q_80_70 : XX d 80 70 [some (.ref a)] st A Q ↔ XX d 80 71 [some (.ref a)] (.ref a :: st) A Q := c_lcl i_80_70 rfl rfl
theorem q_80_71 : XX d 80 71 [v0] st A Q ↔ XX d 80 73 [v0] (.int (w 30) :: st) A Q := c_stk i_80_71 rfl
theorem q_80_78 : XX d 80 78 [some (.ref a)] st A Q ↔ XX d 80 79 [some (.ref a)] (.ref a :: st) A Q := c_lcl i_80_78 rfl rfl
theorem q_80_79 : XX d 80 79 [v0] st A Q ↔ XX d 80 80 [v0] (.int (w 0) :: st) A Q := c_stk i_80_79 rfl
theorem q_80_83 : XX d 80 83 [some (.ref a)] st A Q ↔ XX d 80 84 [some (.ref a)] (.ref a :: st) A Q := c_lcl i_80_83 rfl rfl
theorem q_80_84 : XX d 80 84 [v0] st A Q ↔ XX d 80 85 [v0] (.int (w 0) :: st) A Q := c_stk i_80_84 rfl
theorem q_80_88 : XX d 80 88 [v0] [] A Q ↔ Q (.inl none) A := e_retN i_80_88 rfl
theorem q_80_e : XC d 80 [.ref a0] A Q ↔ XX d 80 0 [some (.ref a0)] [] A Q := Iff.rfl
theorem i_81_0 : t_ins 81 0 = some (.aload_n 0) := by decide +kernel
theorem i_81_1 : t_ins 81 1 = some (.iconst 0) := by decide +kernel
theorem i_81_2 : t_ins 81 2 = some (.putfield 31) := by decide +kernel
theorem i_81_5 : t_ins 81 5 = some (.iconst 0) := by decide +kernel
theorem i_81_6 : t_ins 81 6 = some (.istore 4) := by decide +kernel
theorem i_81_8 : t_ins 81 8 = some (.iload 4) := by decide +kernel
theorem i_81_10 : t_ins 81 10 = some (.aload_n 1) := by decide +kernel
theorem i_81_11 : t_ins 81 11 = some (.iload_n 2) := by decide +kernel
theorem i_81_12 : t_ins 81 12 = some (.invokevirtual 59) := by decide +kernel
theorem i_81_15 : t_ins 81 15 = some (.if_icmp .ge 50) := by decide +kernel
theorem i_81_18 : t_ins 81 18 = some (.aload_n 0) := by decide +kernel
theorem i_81_19 : t_ins 81 19 = some (.getfield 31) := by decide +kernel
theorem i_81_22 : t_ins 81 22 = some (.bipush 30) := by decide +kernel
theorem i_81_24 : t_ins 81 24 = some (.if_icmp .ge 41) := by decide +kernel
theorem i_81_27 : t_ins 81 27 = some (.iload 4) := by decide +kernel
theorem i_81_29 : t_ins 81 29 = some (.iload_n 3) := by decide +kernel
theorem i_81_30 : t_ins 81 30 = some (.if_icmp .eq 29) := by decide +kernel
theorem i_81_33 : t_ins 81 33 = some (.aload_n 0) := by decide +kernel
theorem i_81_34 : t_ins 81 34 = some (.getfield 27) := by decide +kernel
theorem i_81_37 : t_ins 81 37 = some (.aload_n 0) := by decide +kernel
theorem i_81_38 : t_ins 81 38 = some (.getfield 31) := by decide +kernel
theorem i_81_41 : t_ins 81 41 = some (.aload_n 1) := by decide +kernel
theorem i_81_42 : t_ins 81 42 = some (.iload_n 2) := by decide +kernel
theorem i_81_43 : t_ins 81 43 = some (.iload 4) := by decide +kernel
theorem i_81_45 : t_ins 81 45 = some (.invokevirtual 65) := by decide +kernel
theorem i_81_48 : t_ins 81 48 = some (.aastore) := by decide +kernel
theorem i_81_49 : t_ins 81 49 = some (.aload_n 0) := by decide +kernel
theorem i_81_50 : t_ins 81 50 = some (.dup) := by decide +kernel
theorem i_81_51 : t_ins 81 51 = some (.getfield 31) := by decide +kernel
theorem i_81_54 : t_ins 81 54 = some (.iconst 1) := by decide +kernel
theorem i_81_55 : t_ins 81 55 = some (.iadd) := by decide +kernel
theorem i_81_56 : t_ins 81 56 = some (.putfield 31) := by decide +kernel
theorem i_81_59 : t_ins 81 59 = some (.iinc 4 1) := by decide +kernel
theorem i_81_62 : t_ins 81 62 = some (.goto (-54)) := by decide +kernel
theorem i_81_65 : t_ins 81 65 = some (.aload_n 0) := by decide +kernel
theorem i_81_66 : t_ins 81 66 = some (.iconst 0) := by decide +kernel
theorem i_81_67 : t_ins 81 67 = some (.putfield 35) := by decide +kernel
theorem i_81_70 : t_ins 81 70 = some (.aload_n 0) := by decide +kernel
theorem i_81_71 : t_ins 81 71 = some (.getfield 12) := by decide +kernel
theorem i_81_74 : t_ins 81 74 = some (.invokevirtual 69) := by decide +kernel
theorem i_81_77 : t_ins 81 77 = some (.return_) := by decide +kernel
theorem q_81_0 : XX d 81 0 [some (.ref a), v1, v2, v3, v4] st A Q ↔ XX d 81 1 [some (.ref a), v1, v2, v3, v4] (.ref a :: st) A Q := c_lcl i_81_0 rfl rfl
theorem q_81_1 : XX d 81 1 [v0, v1, v2, v3, v4] st A Q ↔ XX d 81 2 [v0, v1, v2, v3, v4] (.int (w 0) :: st) A Q := c_stk i_81_1 rfl
theorem q_81_2 : XX d 81 2 [v0, v1, v2, v3, v4] (.int x :: .ref a :: st) (mk S I L R G) Q ↔ S a = some (.inr 9) ∧ XX d 81 5 [v0, v1, v2, v3, v4] st (mk S (wr I a (up (I a) 3 x)) L R G) Q := r_pf i_81_2 rfl (by decide) rfl rfl rfl
theorem q_81_5 : XX d 81 5 [v0, v1, v2, v3, v4] st A Q ↔ XX d 81 6 [v0, v1, v2, v3, v4] (.int (w 0) :: st) A Q := c_stk i_81_5 rfl
theorem q_81_6 : XX d 81 6 [v0, v1, v2, some (.int z), v4] (.int x :: st) A Q ↔ XX d 81 8 [v0, v1, v2, some (.int z), some (.int x)] st A Q := c_lcl i_81_6 rfl rfl
theorem q_81_8 : XX d 81 8 [v0, v1, v2, v3, some (.int x)] st A Q ↔ XX d 81 10 [v0, v1, v2, v3, some (.int x)] (.int x :: st) A Q := c_lcl i_81_8 rfl rfl
theorem q_81_10 : XX d 81 10 [v0, some (.ref a), v2, v3, v4] st A Q ↔ XX d 81 11 [v0, some (.ref a), v2, v3, v4] (.ref a :: st) A Q := c_lcl i_81_10 rfl rfl
theorem q_81_11 : XX d 81 11 [v0, v1, some (.int x), v3, v4] st A Q ↔ XX d 81 12 [v0, v1, some (.int x), v3, v4] (.int x :: st) A Q := c_lcl i_81_11 rfl rfl
theorem q_81_12 : XX (d + 1) 81 12 [v0, v1, v2, v3, v4] [.int x1, .ref a0, .int x2] (mk S I L R G) Q ↔ S a0 = some (.inr 0) ∧ XC d 1 [.ref a0, .int x1] (mk S I L R G) (XK (d + 1) 81 12 [v0, v1, v2, v3, v4] [.int x2] Q) := c_callV i_81_12 rfl rfl rfl rfl (Nat.le_of_ble_eq_true rfl) (Nat.le_of_ble_eq_true rfl) rfl
theorem q_81_15 : XX d 81 15 [v0, v1, v2, v3, v4] (.int y :: .int x :: st) A Q ↔ if x < y then XX d 81 18 [v0, v1, v2, v3, v4] st A Q else XX d 81 65 [v0, v1, v2, v3, v4] st A Q := b_ge i_81_15 rfl rfl rfl
theorem q_81_18 : XX d 81 18 [some (.ref a), v1, v2, v3, v4] st A Q ↔ XX d 81 19 [some (.ref a), v1, v2, v3, v4] (.ref a :: st) A Q := c_lcl i_81_18 rfl rfl
theorem q_81_19 : XX d 81 19 [v0, v1, v2, v3, v4] (.ref a :: st) (mk S I L R G) Q ↔ S a = some (.inr 9) ∧ XX d 81 22 [v0, v1, v2, v3, v4] (.int (I a 3) :: st) (mk S I L R G) Q := r_gf i_81_19 rfl (by decide) rfl
theorem q_81_22 : XX d 81 22 [v0, v1, v2, v3, v4] st A Q ↔ XX d 81 24 [v0, v1, v2, v3, v4] (.int (w 30) :: st) A Q := c_stk i_81_22 rfl
theorem q_81_24 : XX d 81 24 [v0, v1, v2, v3, v4] (.int y :: .int x :: st) A Q ↔ if x < y then XX d 81 27 [v0, v1, v2, v3, v4] st A Q else XX d 81 65 [v0, v1, v2, v3, v4] st A Q := b_ge i_81_24 rfl rfl rfl
theorem q_81_27 : XX d 81 27 [v0, v1, v2, v3, some (.int x)] st A Q ↔ XX d 81 29 [v0, v1, v2, v3, some (.int x)] (.int x :: st) A Q := c_lcl i_81_27 rfl rfl
theorem q_81_29 : XX d 81 29 [v0, v1, v2, some (.int x), v4] st A Q ↔ XX d 81 30 [v0, v1, v2, some (.int x), v4] (.int x :: st) A Q := c_lcl i_81_29 rfl rfl
theorem q_81_30 : XX d 81 30 [v0, v1, v2, v3, v4] (.int y :: .int x :: st) A Q ↔ if x = y then XX d 81 59 [v0, v1, v2, v3, v4] st A Q else XX d 81 33 [v0, v1, v2, v3, v4] st A Q := b_eq i_81_30 rfl rfl rfl
theorem q_81_33 : XX d 81 33 [some (.ref a), v1, v2, v3, v4] st A Q ↔ XX d 81 34 [some (.ref a), v1, v2, v3, v4] (.ref a :: st) A Q := c_lcl i_81_33 rfl rfl
theorem q_81_34 : XX d 81 34 [v0, v1, v2, v3, v4] (.ref a :: st) (mk S I L R G) Q ↔ S a = some (.inr 9) ∧ XX d 81 37 [v0, v1, v2, v3, v4] (.ref (a + 12) :: st) (mk S I L R G) Q := r_gf i_81_34 rfl (by decide) rfl
theorem q_81_37 : XX d 81 37 [some (.ref a), v1, v2, v3, v4] st A Q ↔ XX d 81 38 [some (.ref a), v1, v2, v3, v4] (.ref a :: st) A Q := c_lcl i_81_37 rfl rfl
theorem q_81_38 : XX d 81 38 [v0, v1, v2, v3, v4] (.ref a :: st) (mk S I L R G) Q ↔ S a = some (.inr 9) ∧ XX d 81 41 [v0, v1, v2, v3, v4] (.int (I a 3) :: st) (mk S I L R G) Q := r_gf i_81_38 rfl (by decide) rfl
theorem q_81_41 : XX d 81 41 [v0, some (.ref a), v2, v3, v4] st A Q ↔ XX d 81 42 [v0, some (.ref a), v2, v3, v4] (.ref a :: st) A Q := c_lcl i_81_41 rfl rfl
theorem q_81_42 : XX d 81 42 [v0, v1, some (.int x), v3, v4] st A Q ↔ XX d 81 43 [v0, v1, some (.int x), v3, v4] (.int x :: st) A Q := c_lcl i_81_42 rfl rfl
theorem q_81_43 : XX d 81 43 [v0, v1, v2, v3, some (.int x)] st A Q ↔ XX d 81 45 [v0, v1, v2, v3, some (.int x)] (.int x :: st) A Q := c_lcl i_81_43 rfl rfl
theorem q_81_45 : XX (d + 1) 81 45 [v0, v1, v2, v3, v4] [.int x2, .int x1, .ref a0, .int x3, .ref a4] (mk S I L R G) Q ↔ S a0 = some (.inr 0) ∧ XC d 2 [.ref a0, .int x1, .int x2] (mk S I L R G) (XK (d + 1) 81 45 [v0, v1, v2, v3, v4] [.int x3, .ref a4] Q) := c_callV i_81_45 rfl rfl rfl rfl (Nat.le_of_ble_eq_true rfl) (Nat.le_of_ble_eq_true rfl) rfl
theorem q_81_48 : XX d 81 48 [v0, v1, v2, v3, v4] (.ref b :: .int x :: .ref a :: st) (mk S I L R G) Q ↔ aqP (S a) S (some b) x ∧ XX d 81 49 [v0, v1, v2, v3, v4] st (mk S I L (wr R a (up (R a) (ix x) (some b))) G) Q := r_aqs i_81_48
theorem q_81_48o : XX d 81 48 [v0, v1, v2, v3, v4] (va_rf o :: .int x :: .ref a :: st) (mk S I L R G) Q ↔ aqP (S a) S o x ∧ XX d 81 49 [v0, v1, v2, v3, v4] st (mk S I L (wr R a (up (R a) (ix x) o)) G) Q := r_aqo i_81_48
theorem q_81_49 : XX d 81 49 [some (.ref a), v1, v2, v3, v4] st A Q ↔ XX d 81 50 [some (.ref a), v1, v2, v3, v4] (.ref a :: st) A Q := c_lcl i_81_49 rfl rfl
theorem q_81_50 : XX d 81 50 [v0, v1, v2, v3, v4] (.ref a1 :: st) A Q ↔ XX d 81 51 [v0, v1, v2, v3, v4] (.ref a1 :: .ref a1 :: st) A Q := c_stk i_81_50 rfl
theorem q_81_51 : XX d 81 51 [v0, v1, v2, v3, v4] (.ref a :: st) (mk S I L R G) Q ↔ S a = some (.inr 9) ∧ XX d 81 54 [v0, v1, v2, v3, v4] (.int (I a 3) :: st) (mk S I L R G) Q := r_gf i_81_51 rfl (by decide) rfl
theorem q_81_54 : XX d 81 54 [v0, v1, v2, v3, v4] st A Q ↔ XX d 81 55 [v0, v1, v2, v3, v4] (.int (w 1) :: st) A Q := c_stk i_81_54 rfl
theorem q_81_55 : XX d 81 55 [v0, v1, v2, v3, v4] (.int y :: .int x :: st) A Q ↔ XX d 81 56 [v0, v1, v2, v3, v4] (.int (x + y) :: st) A Q := c_stk i_81_55 rfl
theorem q_81_56 : XX d 81 56 [v0, v1, v2, v3, v4] (.int x :: .ref a :: st) (mk S I L R G) Q ↔ S a = some (.inr 9) ∧ XX d 81 59 [v0, v1, v2, v3, v4] st (mk S (wr I a (up (I a) 3 x)) L R G) Q := r_pf i_81_56 rfl (by decide) rfl rfl rfl
theorem q_81_59 : XX d 81 59 [v0, v1, v2, some (.int z), some (.int x)] st A Q ↔ XX d 81 62 [v0, v1, v2, some (.int z), some (.int (x + w 1))] st A Q := c_lcl i_81_59 rfl rfl
theorem q_81_62 : XX d 81 62 [v0, v1, v2, v3, v4] st A Q ↔ XX d 81 8 [v0, v1, v2, v3, v4] st A Q := c_go i_81_62 rfl rfl
theorem q_81_65 : XX d 81 65 [some (.ref a), v1, v2, v3, v4] st A Q ↔ XX d 81 66 [some (.ref a), v1, v2, v3, v4] (.ref a :: st) A Q := c_lcl i_81_65 rfl rfl
theorem q_81_66 : XX d 81 66 [v0, v1, v2, v3, v4] st A Q ↔ XX d 81 67 [v0, v1, v2, v3, v4] (.int (w 0) :: st) A Q := c_stk i_81_66 rfl
theorem q_81_67 : XX d 81 67 [v0, v1, v2, v3, v4] (.int x :: .ref a :: st) (mk S I L R G) Q ↔ S a = some (.inr 9) ∧ XX d 81 70 [v0, v1, v2, v3, v4] st (mk S (wr I a (up (I a) 4 x)) L R G) Q := r_pf i_81_67 rfl (by decide) rfl rfl rfl
theorem q_81_70 : XX d 81 70 [some (.ref a), v1, v2, v3, v4] st A Q ↔ XX d 81 71 [some (.ref a), v1, v2, v3, v4] (.ref a :: st) A Q := c_lcl i_81_70 rfl rfl
theorem q_81_71 : XX d 81 71 [v0, v1, v2, v3, v4] (.ref a :: st) (mk S I L R G) Q ↔ S a = some (.inr 9) ∧ XX d 81 74 [v0, v1, v2, v3, v4] (.ref (a + 1) :: st) (mk S I L R G) Q := r_gf i_81_71 rfl (by decide) rfl
theorem q_81_74 : XX (d + 1) 81 74 [v0, v1, v2, v3, v4] [.ref a0] (mk S I L R G) Q ↔ S a0 = some (.inr 4) ∧ XC d 26 [.ref a0] (mk S I L R G) (XK (d + 1) 81 74 [v0, v1, v2, v3, v4] [] Q) := c_callV i_81_74 rfl rfl rfl rfl (Nat.le_of_ble_eq_true rfl) (Nat.le_of_ble_eq_true rfl) rfl
theorem q_81_77 : XX d 81 77 [v0, v1, v2, v3, v4] [] A Q ↔ Q (.inl none) A := e_retN i_81_77 rfl
theorem q_81_e : XC d 81 [.ref a0, .ref a1, .int x2, .int x3] A Q ↔ XX d 81 0 [some (.ref a0), some (.ref a1), some (.int x2), some (.int x3), none] [] A Q := Iff.rfl
theorem i_82_0 : t_ins 82 0 = some (.iconst 0) := by decide +kernel
theorem i_82_1 : t_ins 82 1 = some (.istore_n 2) := by decide +kernel
theorem i_82_2 : t_ins 82 2 = some (.iload_n 2) := by decide +kernel
theorem i_82_3 : t_ins 82 3 = some (.aload_n 0) := by decide +kernel
theorem i_82_4 : t_ins 82 4 = some (.getfield 31) := by decide +kernel
theorem i_82_7 : t_ins 82 7 = some (.if_icmp .ge 36) := by decide +kernel
theorem i_82_10 : t_ins 82 10 = some (.iload_n 2) := by decide +kernel
theorem i_82_11 : t_ins 82 11 = some (.bipush 30) := by decide +kernel
theorem i_82_13 : t_ins 82 13 = some (.if_icmp .ge 30) := by decide +kernel
theorem i_82_16 : t_ins 82 16 = some (.aload_n 0) := by decide +kernel
theorem i_82_17 : t_ins 82 17 = some (.getfield 27) := by decide +kernel
theorem i_82_20 : t_ins 82 20 = some (.iload_n 2) := by decide +kernel
theorem i_82_21 : t_ins 82 21 = some (.aaload) := by decide +kernel
theorem i_82_22 : t_ins 82 22 = some (.astore_n 3) := by decide +kernel
theorem i_82_23 : t_ins 82 23 = some (.aload_n 3) := by decide +kernel
theorem i_82_24 : t_ins 82 24 = some (.ifnull 13) := by decide +kernel
theorem i_82_27 : t_ins 82 27 = some (.aload_n 3) := by decide +kernel
theorem i_82_28 : t_ins 82 28 = some (.iload_n 1) := by decide +kernel
theorem i_82_29 : t_ins 82 29 = some (.invokevirtual 72) := by decide +kernel
theorem i_82_32 : t_ins 82 32 = some (.ifCond .eq 5) := by decide +kernel
theorem i_82_35 : t_ins 82 35 = some (.iload_n 2) := by decide +kernel
theorem i_82_36 : t_ins 82 36 = some (.ireturn) := by decide +kernel
theorem i_82_37 : t_ins 82 37 = some (.iinc 2 1) := by decide +kernel
theorem i_82_40 : t_ins 82 40 = some (.goto (-38)) := by decide +kernel
theorem i_82_43 : t_ins 82 43 = some (.iconst (-1)) := by decide +kernel
theorem i_82_44 : t_ins 82 44 = some (.ireturn) := by decide +kernel
theorem q_82_0 : XX d 82 0 [v0, v1, v2, v3] st A Q ↔ XX d 82 1 [v0, v1, v2, v3] (.int (w 0) :: st) A Q := c_stk i_82_0 rfl
theorem q_82_1 : XX d 82 1 [v0, some (.int z), v2, v3] (.int x :: st) A Q ↔ XX d 82 2 [v0, some (.int z), some (.int x), v3] st A Q := c_lcl i_82_1 rfl rfl
theorem q_82_2 : XX d 82 2 [v0, v1, some (.int x), v3] st A Q ↔ XX d 82 3 [v0, v1, some (.int x), v3] (.int x :: st) A Q := c_lcl i_82_2 rfl rfl
theorem q_82_3 : XX d 82 3 [some (.ref a), v1, v2, v3] st A Q ↔ XX d 82 4 [some (.ref a), v1, v2, v3] (.ref a :: st) A Q := c_lcl i_82_3 rfl rfl
theorem q_82_4 : XX d 82 4 [v0, v1, v2, v3] (.ref a :: st) (mk S I L R G) Q ↔ S a = some (.inr 9) ∧ XX d 82 7 [v0, v1, v2, v3] (.int (I a 3) :: st) (mk S I L R G) Q := r_gf i_82_4 rfl (by decide) rfl
theorem q_82_7 : XX d 82 7 [v0, v1, v2, v3] (.int y :: .int x :: st) A Q ↔ if x < y then XX d 82 10 [v0, v1, v2, v3] st A Q else XX d 82 43 [v0, v1, v2, v3] st A Q := b_ge i_82_7 rfl rfl rfl
theorem q_82_10 : XX d 82 10 [v0, v1, some (.int x), v3] st A Q ↔ XX d 82 11 [v0, v1, some (.int x), v3] (.int x :: st) A Q := c_lcl i_82_10 rfl rfl
theorem q_82_11 : XX d 82 11 [v0, v1, v2, v3] st A Q ↔ XX d 82 13 [v0, v1, v2, v3] (.int (w 30) :: st) A Q := c_stk i_82_11 rfl
theorem q_82_13 : XX d 82 13 [v0, v1, v2, v3] (.int y :: .int x :: st) A Q ↔ if x < y then XX d 82 16 [v0, v1, v2, v3] st A Q else XX d 82 43 [v0, v1, v2, v3] st A Q := b_ge i_82_13 rfl rfl rfl
theorem q_82_16 : XX d 82 16 [some (.ref a), v1, v2, v3] st A Q ↔ XX d 82 17 [some (.ref a), v1, v2, v3] (.ref a :: st) A Q := c_lcl i_82_16 rfl rfl
theorem q_82_17 : XX d 82 17 [v0, v1, v2, v3] (.ref a :: st) (mk S I L R G) Q ↔ S a = some (.inr 9) ∧ XX d 82 20 [v0, v1, v2, v3] (.ref (a + 12) :: st) (mk S I L R G) Q := r_gf i_82_17 rfl (by decide) rfl
theorem q_82_20 : XX d 82 20 [v0, v1, some (.int x), v3] st A Q ↔ XX d 82 21 [v0, v1, some (.int x), v3] (.int x :: st) A Q := c_lcl i_82_20 rfl rfl
theorem q_82_21 : XX d 82 21 [v0, v1, v2, v3] (.int x :: .ref a :: st) (mk S I L R G) Q ↔ inA (S a) ok_q x ∧ XX d 82 22 [v0, v1, v2, v3] (va_rf (R a (ix x)) :: st) (mk S I L R G) Q := r_aq i_82_21
theorem q_82_22 : XX d 82 22 [v0, v1, some (.int z), v3] (.ref a :: st) A Q ↔ XX d 82 23 [v0, v1, some (.int z), some (.ref a)] st A Q := c_lcl i_82_22 rfl rfl
theorem q_82_22o : XX d 82 22 [v0, v1, some (.int z), v3] (va_rf o :: st) A Q ↔ XX d 82 23 [v0, v1, some (.int z), some (va_rf o)] st A Q := by cases o <;> exact c_lcl i_82_22 rfl rfl
theorem q_82_23 : XX d 82 23 [v0, v1, v2, some (.ref a)] st A Q ↔ XX d 82 24 [v0, v1, v2, some (.ref a)] (.ref a :: st) A Q := c_lcl i_82_23 rfl rfl
theorem q_82_23o : XX d 82 23 [v0, v1, v2, some (va_rf o)] st A Q ↔ XX d 82 24 [v0, v1, v2, some (va_rf o)] (va_rf o :: st) A Q := by cases o <;> exact c_lcl i_82_23 rfl rfl
theorem q_82_24o : XX d 82 24 [v0, v1, v2, v3] (va_rf o :: st) A Q ↔ if o = none then XX d 82 37 [v0, v1, v2, v3] st A Q else XX d 82 27 [v0, v1, v2, v3] st A Q := b_null i_82_24 rfl rfl rfl
theorem q_82_24 : XX d 82 24 [v0, v1, v2, v3] (.ref a :: st) A Q ↔ XX d 82 27 [v0, v1, v2, v3] st A Q := c_br i_82_24 rfl rfl rfl
theorem q_82_27 : XX d 82 27 [v0, v1, v2, some (.ref a)] st A Q ↔ XX d 82 28 [v0, v1, v2, some (.ref a)] (.ref a :: st) A Q := c_lcl i_82_27 rfl rfl
theorem q_82_27o : XX d 82 27 [v0, v1, v2, some (va_rf o)] st A Q ↔ XX d 82 28 [v0, v1, v2, some (va_rf o)] (va_rf o :: st) A Q := by cases o <;> exact c_lcl i_82_27 rfl rfl
theorem q_82_28 : XX d 82 28 [v0, some (.int x), v2, v3] st A Q ↔ XX d 82 29 [v0, some (.int x), v2, v3] (.int x :: st) A Q := c_lcl i_82_28 rfl rfl
theorem q_82_29 : XX (d + 1) 82 29 [v0, v1, v2, v3] [.int x1, .ref a0] (mk S I L R G) Q ↔ S a0 = some (.inr 6) ∧ XC d 56 [.ref a0, .int x1] (mk S I L R G) (XK (d + 1) 82 29 [v0, v1, v2, v3] [] Q) := c_callV i_82_29 rfl rfl rfl rfl (Nat.le_of_ble_eq_true rfl) (Nat.le_of_ble_eq_true rfl) rfl
theorem q_82_32 : XX d 82 32 [v0, v1, v2, v3] (.int x :: st) A Q ↔ if x = w 0 then XX d 82 37 [v0, v1, v2, v3] st A Q else XX d 82 35 [v0, v1, v2, v3] st A Q := z_eq i_82_32 rfl rfl rfl
theorem q_82_35 : XX d 82 35 [v0, v1, some (.int x), v3] st A Q ↔ XX d 82 36 [v0, v1, some (.int x), v3] (.int x :: st) A Q := c_lcl i_82_35 rfl rfl
theorem q_82_36 : XX d 82 36 [v0, v1, v2, v3] [.int x] A Q ↔ Q (.inl (some (.int x))) A := e_retI i_82_36 rfl
theorem q_82_37 : XX d 82 37 [v0, some (.int z), some (.int x), v3] st A Q ↔ XX d 82 40 [v0, some (.int z), some (.int (x + w 1)), v3] st A Q := c_lcl i_82_37 rfl rfl
theorem q_82_40 : XX d 82 40 [v0, v1, v2, v3] st A Q ↔ XX d 82 2 [v0, v1, v2, v3] st A Q := c_go i_82_40 rfl rfl
theorem q_82_43 : XX d 82 43 [v0, v1, v2, v3] st A Q ↔ XX d 82 44 [v0, v1, v2, v3] (.int (w (-1)) :: st) A Q := c_stk i_82_43 rfl
theorem q_82_44 : XX d 82 44 [v0, v1, v2, v3] [.int x] A Q ↔ Q (.inl (some (.int x))) A := e_retI i_82_44 rfl
theorem q_82_e : XC d 82 [.ref a0, .int x1] A Q ↔ XX d 82 0 [some (.ref a0), some (.int x1), none, none] [] A Q := Iff.rfl
theorem i_83_0 : t_ins 83 0 = some (.iconst 0) := by decide +kernel
theorem i_83_1 : t_ins 83 1 = some (.istore_n 3) := by decide +kernel
theorem i_83_2 : t_ins 83 2 = some (.iconst 0) := by decide +kernel
theorem i_83_3 : t_ins 83 3 = some (.istore 4) := by decide +kernel
theorem i_83_5 : t_ins 83 5 = some (.iload 4) := by decide +kernel
theorem i_83_7 : t_ins 83 7 = some (.iload_n 2) := by decide +kernel
theorem i_83_8 : t_ins 83 8 = some (.if_icmp .gt 22) := by decide +kernel
theorem i_83_11 : t_ins 83 11 = some (.aload_n 0) := by decide +kernel
theorem i_83_12 : t_ins 83 12 = some (.iload 4) := by decide +kernel
theorem i_83_14 : t_ins 83 14 = some (.invokevirtual 76) := by decide +kernel
theorem i_83_17 : t_ins 83 17 = some (.iload_n 1) := by decide +kernel
theorem i_83_18 : t_ins 83 18 = some (.if_icmp .ne 6) := by decide +kernel
theorem i_83_21 : t_ins 83 21 = some (.iinc 3 1) := by decide +kernel
theorem i_83_24 : t_ins 83 24 = some (.iinc 4 1) := by decide +kernel
theorem i_83_27 : t_ins 83 27 = some (.goto (-22)) := by decide +kernel
theorem i_83_30 : t_ins 83 30 = some (.iload_n 3) := by decide +kernel
theorem i_83_31 : t_ins 83 31 = some (.ireturn) := by decide +kernel
theorem q_83_0 : XX d 83 0 [v0, v1, v2, v3, v4] st A Q ↔ XX d 83 1 [v0, v1, v2, v3, v4] (.int (w 0) :: st) A Q := c_stk i_83_0 rfl
theorem q_83_1 : XX d 83 1 [v0, v1, some (.int z), v3, v4] (.int x :: st) A Q ↔ XX d 83 2 [v0, v1, some (.int z), some (.int x), v4] st A Q := c_lcl i_83_1 rfl rfl
theorem q_83_2 : XX d 83 2 [v0, v1, v2, v3, v4] st A Q ↔ XX d 83 3 [v0, v1, v2, v3, v4] (.int (w 0) :: st) A Q := c_stk i_83_2 rfl
theorem q_83_3 : XX d 83 3 [v0, v1, v2, some (.int z), v4] (.int x :: st) A Q ↔ XX d 83 5 [v0, v1, v2, some (.int z), some (.int x)] st A Q := c_lcl i_83_3 rfl rfl
theorem q_83_5 : XX d 83 5 [v0, v1, v2, v3, some (.int x)] st A Q ↔ XX d 83 7 [v0, v1, v2, v3, some (.int x)] (.int x :: st) A Q := c_lcl i_83_5 rfl rfl
theorem q_83_7 : XX d 83 7 [v0, v1, some (.int x), v3, v4] st A Q ↔ XX d 83 8 [v0, v1, some (.int x), v3, v4] (.int x :: st) A Q := c_lcl i_83_7 rfl rfl
theorem q_83_8 : XX d 83 8 [v0, v1, v2, v3, v4] (.int y :: .int x :: st) A Q ↔ if y < x then XX d 83 30 [v0, v1, v2, v3, v4] st A Q else XX d 83 11 [v0, v1, v2, v3, v4] st A Q := b_gt i_83_8 rfl rfl rfl
theorem q_83_11 : XX d 83 11 [some (.ref a), v1, v2, v3, v4] st A Q ↔ XX d 83 12 [some (.ref a), v1, v2, v3, v4] (.ref a :: st) A Q := c_lcl i_83_11 rfl rfl
theorem q_83_12 : XX d 83 12 [v0, v1, v2, v3, some (.int x)] st A Q ↔ XX d 83 14 [v0, v1, v2, v3, some (.int x)] (.int x :: st) A Q := c_lcl i_83_12 rfl rfl
theorem q_83_14 : XX (d + 1) 83 14 [v0, v1, v2, v3, v4] [.int x1, .ref a0] (mk S I L R G) Q ↔ S a0 = some (.inr 9) ∧ XC d 82 [.ref a0, .int x1] (mk S I L R G) (XK (d + 1) 83 14 [v0, v1, v2, v3, v4] [] Q) := c_callV i_83_14 rfl rfl rfl rfl (Nat.le_of_ble_eq_true rfl) (Nat.le_of_ble_eq_true rfl) rfl
theorem q_83_17 : XX d 83 17 [v0, some (.int x), v2, v3, v4] st A Q ↔ XX d 83 18 [v0, some (.int x), v2, v3, v4] (.int x :: st) A Q := c_lcl i_83_17 rfl rfl
theorem q_83_18 : XX d 83 18 [v0, v1, v2, v3, v4] (.int y :: .int x :: st) A Q ↔ if x = y then XX d 83 21 [v0, v1, v2, v3, v4] st A Q else XX d 83 24 [v0, v1, v2, v3, v4] st A Q := b_ne i_83_18 rfl rfl rfl
theorem q_83_21 : XX d 83 21 [v0, v1, some (.int z), some (.int x), v4] st A Q ↔ XX d 83 24 [v0, v1, some (.int z), some (.int (x + w 1)), v4] st A Q := c_lcl i_83_21 rfl rfl
theorem q_83_24 : XX d 83 24 [v0, v1, v2, some (.int z), some (.int x)] st A Q ↔ XX d 83 27 [v0, v1, v2, some (.int z), some (.int (x + w 1))] st A Q := c_lcl i_83_24 rfl rfl
theorem q_83_27 : XX d 83 27 [v0, v1, v2, v3, v4] st A Q ↔ XX d 83 5 [v0, v1, v2, v3, v4] st A Q := c_go i_83_27 rfl rfl
theorem q_83_30 : XX d 83 30 [v0, v1, v2, some (.int x), v4] st A Q ↔ XX d 83 31 [v0, v1, v2, some (.int x), v4] (.int x :: st) A Q := c_lcl i_83_30 rfl rfl
theorem q_83_31 : XX d 83 31 [v0, v1, v2, v3, v4] [.int x] A Q ↔ Q (.inl (some (.int x))) A := e_retI i_83_31 rfl
theorem q_83_e : XC d 83 [.ref a0, .int x1, .int x2] A Q ↔ XX d 83 0 [some (.ref a0), some (.int x1), some (.int x2), none, none] [] A Q := Iff.rfl
theorem i_84_0 : t_ins 84 0 = some (.iload_n 1) := by decide +kernel
theorem i_84_1 : t_ins 84 1 = some (.ifCond .lt 9) := by decide +kernel
theorem i_84_4 : t_ins 84 4 = some (.iload_n 1) := by decide +kernel
theorem i_84_5 : t_ins 84 5 = some (.ldc 79) := by decide +kernel
theorem i_84_7 : t_ins 84 7 = some (.if_icmp .le 5) := by decide +kernel
theorem i_84_10 : t_ins 84 10 = some (.iconst 0) := by decide +kernel
theorem i_84_11 : t_ins 84 11 = some (.ireturn) := by decide +kernel
theorem i_84_12 : t_ins 84 12 = some (.aload_n 0) := by decide +kernel
theorem i_84_13 : t_ins 84 13 = some (.getfield 12) := by decide +kernel
theorem i_84_16 : t_ins 84 16 = some (.iload_n 1) := by decide +kernel
theorem i_84_17 : t_ins 84 17 = some (.invokevirtual 80) := by decide +kernel
theorem i_84_20 : t_ins 84 20 = some (.ifCond .ne 30) := by decide +kernel
theorem i_84_23 : t_ins 84 23 = some (.aload_n 0) := by decide +kernel
theorem i_84_24 : t_ins 84 24 = some (.iconst 0) := by decide +kernel
theorem i_84_25 : t_ins 84 25 = some (.putfield 55) := by decide +kernel
theorem i_84_28 : t_ins 84 28 = some (.aload_n 0) := by decide +kernel
theorem i_84_29 : t_ins 84 29 = some (.iconst 0) := by decide +kernel
theorem i_84_30 : t_ins 84 30 = some (.putfield 52) := by decide +kernel
theorem i_84_33 : t_ins 84 33 = some (.aload_n 0) := by decide +kernel
theorem i_84_34 : t_ins 84 34 = some (.iload_n 1) := by decide +kernel
theorem i_84_35 : t_ins 84 35 = some (.iconst 0) := by decide +kernel
theorem i_84_36 : t_ins 84 36 = some (.invokevirtual 83) := by decide +kernel
theorem i_84_39 : t_ins 84 39 = some (.ifCond .ne 11) := by decide +kernel
theorem i_84_42 : t_ins 84 42 = some (.aload_n 0) := by decide +kernel
theorem i_84_43 : t_ins 84 43 = some (.getfield 12) := by decide +kernel
theorem i_84_46 : t_ins 84 46 = some (.iload_n 1) := by decide +kernel
theorem i_84_47 : t_ins 84 47 = some (.invokevirtual 87) := by decide +kernel
theorem i_84_50 : t_ins 84 50 = some (.aload_n 0) := by decide +kernel
theorem i_84_51 : t_ins 84 51 = some (.getfield 12) := by decide +kernel
theorem i_84_54 : t_ins 84 54 = some (.iload_n 1) := by decide +kernel
theorem i_84_55 : t_ins 84 55 = some (.invokevirtual 91) := by decide +kernel
theorem i_84_58 : t_ins 84 58 = some (.ireturn) := by decide +kernel
theorem q_84_0 : XX d 84 0 [v0, some (.int x)] st A Q ↔ XX d 84 1 [v0, some (.int x)] (.int x :: st) A Q := c_lcl i_84_0 rfl rfl
theorem q_84_1 : XX d 84 1 [v0, v1] (.int x :: st) A Q ↔ if x < w 0 then XX d 84 10 [v0, v1] st A Q else XX d 84 4 [v0, v1] st A Q := z_lt i_84_1 rfl rfl rfl
theorem q_84_4 : XX d 84 4 [v0, some (.int x)] st A Q ↔ XX d 84 5 [v0, some (.int x)] (.int x :: st) A Q := c_lcl i_84_4 rfl rfl
theorem q_84_5 : XX d 84 5 [v0, v1] st A Q ↔ XX d 84 7 [v0, v1] (.int (w 999999999) :: st) A Q := r_ldc i_84_5 rfl
theorem q_84_7 : XX d 84 7 [v0, v1] (.int y :: .int x :: st) A Q ↔ if y < x then XX d 84 10 [v0, v1] st A Q else XX d 84 12 [v0, v1] st A Q := b_le i_84_7 rfl rfl rfl
theorem q_84_10 : XX d 84 10 [v0, v1] st A Q ↔ XX d 84 11 [v0, v1] (.int (w 0) :: st) A Q := c_stk i_84_10 rfl
theorem q_84_11 : XX d 84 11 [v0, v1] [.int x] A Q ↔ (x = w 0 ∨ x = w 1) ∧ Q (.inl (some (.int x))) A := e_retZ i_84_11 rfl
theorem q_84_12 : XX d 84 12 [some (.ref a), v1] st A Q ↔ XX d 84 13 [some (.ref a), v1] (.ref a :: st) A Q := c_lcl i_84_12 rfl rfl
theorem q_84_13 : XX d 84 13 [v0, v1] (.ref a :: st) (mk S I L R G) Q ↔ S a = some (.inr 9) ∧ XX d 84 16 [v0, v1] (.ref (a + 1) :: st) (mk S I L R G) Q := r_gf i_84_13 rfl (by decide) rfl
theorem q_84_16 : XX d 84 16 [v0, some (.int x)] st A Q ↔ XX d 84 17 [v0, some (.int x)] (.int x :: st) A Q := c_lcl i_84_16 rfl rfl
theorem q_84_17 : XX (d + 1) 84 17 [v0, v1] [.int x1, .ref a0] (mk S I L R G) Q ↔ S a0 = some (.inr 4) ∧ XC d 28 [.ref a0, .int x1] (mk S I L R G) (XK (d + 1) 84 17 [v0, v1] [] Q) := c_callV i_84_17 rfl rfl rfl rfl (Nat.le_of_ble_eq_true rfl) (Nat.le_of_ble_eq_true rfl) rfl
theorem q_84_20 : XX d 84 20 [v0, v1] (.int x :: st) A Q ↔ if x = w 0 then XX d 84 23 [v0, v1] st A Q else XX d 84 50 [v0, v1] st A Q := z_ne i_84_20 rfl rfl rfl
theorem q_84_23 : XX d 84 23 [some (.ref a), v1] st A Q ↔ XX d 84 24 [some (.ref a), v1] (.ref a :: st) A Q := c_lcl i_84_23 rfl rfl
theorem q_84_24 : XX d 84 24 [v0, v1] st A Q ↔ XX d 84 25 [v0, v1] (.int (w 0) :: st) A Q := c_stk i_84_24 rfl
theorem q_84_25 : XX d 84 25 [v0, v1] (.int x :: .ref a :: st) (mk S I L R G) Q ↔ (x = w 0 ∨ x = w 1) ∧ S a = some (.inr 9) ∧ XX d 84 28 [v0, v1] st (mk S (wr I a (up (I a) 10 x)) L R G) Q := r_pfz i_84_25 rfl (by decide) rfl rfl rfl
theorem q_84_28 : XX d 84 28 [some (.ref a), v1] st A Q ↔ XX d 84 29 [some (.ref a), v1] (.ref a :: st) A Q := c_lcl i_84_28 rfl rfl
theorem q_84_29 : XX d 84 29 [v0, v1] st A Q ↔ XX d 84 30 [v0, v1] (.int (w 0) :: st) A Q := c_stk i_84_29 rfl
theorem q_84_30 : XX d 84 30 [v0, v1] (.int x :: .ref a :: st) (mk S I L R G) Q ↔ S a = some (.inr 9) ∧ XX d 84 33 [v0, v1] st (mk S (wr I a (up (I a) 9 x)) L R G) Q := r_pf i_84_30 rfl (by decide) rfl rfl rfl
theorem q_84_33 : XX d 84 33 [some (.ref a), v1] st A Q ↔ XX d 84 34 [some (.ref a), v1] (.ref a :: st) A Q := c_lcl i_84_33 rfl rfl
theorem q_84_34 : XX d 84 34 [v0, some (.int x)] st A Q ↔ XX d 84 35 [v0, some (.int x)] (.int x :: st) A Q := c_lcl i_84_34 rfl rfl
theorem q_84_35 : XX d 84 35 [v0, v1] st A Q ↔ XX d 84 36 [v0, v1] (.int (w 0) :: st) A Q := c_stk i_84_35 rfl
theorem q_84_36 : XX (d + 1) 84 36 [v0, v1] [.int x2, .int x1, .ref a0] (mk S I L R G) Q ↔ S a0 = some (.inr 9) ∧ XC d 89 [.ref a0, .int x1, .int x2] (mk S I L R G) (XK (d + 1) 84 36 [v0, v1] [] Q) := c_callV i_84_36 rfl rfl rfl rfl (Nat.le_of_ble_eq_true rfl) (Nat.le_of_ble_eq_true rfl) rfl
theorem q_84_39 : XX d 84 39 [v0, v1] (.int x :: st) A Q ↔ if x = w 0 then XX d 84 42 [v0, v1] st A Q else XX d 84 50 [v0, v1] st A Q := z_ne i_84_39 rfl rfl rfl
theorem q_84_42 : XX d 84 42 [some (.ref a), v1] st A Q ↔ XX d 84 43 [some (.ref a), v1] (.ref a :: st) A Q := c_lcl i_84_42 rfl rfl
theorem q_84_43 : XX d 84 43 [v0, v1] (.ref a :: st) (mk S I L R G) Q ↔ S a = some (.inr 9) ∧ XX d 84 46 [v0, v1] (.ref (a + 1) :: st) (mk S I L R G) Q := r_gf i_84_43 rfl (by decide) rfl
theorem q_84_46 : XX d 84 46 [v0, some (.int x)] st A Q ↔ XX d 84 47 [v0, some (.int x)] (.int x :: st) A Q := c_lcl i_84_46 rfl rfl
theorem q_84_47 : XX (d + 1) 84 47 [v0, v1] [.int x1, .ref a0] (mk S I L R G) Q ↔ S a0 = some (.inr 4) ∧ XC d 34 [.ref a0, .int x1] (mk S I L R G) (XK (d + 1) 84 47 [v0, v1] [] Q) := c_callV i_84_47 rfl rfl rfl rfl (Nat.le_of_ble_eq_true rfl) (Nat.le_of_ble_eq_true rfl) rfl
theorem q_84_50 : XX d 84 50 [some (.ref a), v1] st A Q ↔ XX d 84 51 [some (.ref a), v1] (.ref a :: st) A Q := c_lcl i_84_50 rfl rfl
theorem q_84_51 : XX d 84 51 [v0, v1] (.ref a :: st) (mk S I L R G) Q ↔ S a = some (.inr 9) ∧ XX d 84 54 [v0, v1] (.ref (a + 1) :: st) (mk S I L R G) Q := r_gf i_84_51 rfl (by decide) rfl
theorem q_84_54 : XX d 84 54 [v0, some (.int x)] st A Q ↔ XX d 84 55 [v0, some (.int x)] (.int x :: st) A Q := c_lcl i_84_54 rfl rfl
theorem q_84_55 : XX (d + 1) 84 55 [v0, v1] [.int x1, .ref a0] (mk S I L R G) Q ↔ S a0 = some (.inr 4) ∧ XC d 30 [.ref a0, .int x1] (mk S I L R G) (XK (d + 1) 84 55 [v0, v1] [] Q) := c_callV i_84_55 rfl rfl rfl rfl (Nat.le_of_ble_eq_true rfl) (Nat.le_of_ble_eq_true rfl) rfl
theorem q_84_58 : XX d 84 58 [v0, v1] [.int x] A Q ↔ (x = w 0 ∨ x = w 1) ∧ Q (.inl (some (.int x))) A := e_retZ i_84_58 rfl
theorem q_84_e : XC d 84 [.ref a0, .int x1] A Q ↔ XX d 84 0 [some (.ref a0), some (.int x1)] [] A Q := Iff.rfl
theorem i_85_0 : t_ins 85 0 = some (.iconst 0) := by decide +kernel
theorem i_85_1 : t_ins 85 1 = some (.istore_n 2) := by decide +kernel
theorem i_85_2 : t_ins 85 2 = some (.iload_n 2) := by decide +kernel
theorem i_85_3 : t_ins 85 3 = some (.iload_n 1) := by decide +kernel
theorem i_85_4 : t_ins 85 4 = some (.if_icmp .gt 15) := by decide +kernel
theorem i_85_7 : t_ins 85 7 = some (.aload_n 0) := by decide +kernel
theorem i_85_8 : t_ins 85 8 = some (.iload_n 2) := by decide +kernel
theorem i_85_9 : t_ins 85 9 = some (.invokevirtual 94) := by decide +kernel
theorem i_85_12 : t_ins 85 12 = some (.pop) := by decide +kernel
theorem i_85_13 : t_ins 85 13 = some (.iinc 2 1) := by decide +kernel
theorem i_85_16 : t_ins 85 16 = some (.goto (-14)) := by decide +kernel
theorem i_85_19 : t_ins 85 19 = some (.return_) := by decide +kernel
theorem q_85_0 : XX d 85 0 [v0, v1, v2] st A Q ↔ XX d 85 1 [v0, v1, v2] (.int (w 0) :: st) A Q := c_stk i_85_0 rfl
theorem q_85_1 : XX d 85 1 [v0, some (.int z), v2] (.int x :: st) A Q ↔ XX d 85 2 [v0, some (.int z), some (.int x)] st A Q := c_lcl i_85_1 rfl rfl
theorem q_85_2 : XX d 85 2 [v0, v1, some (.int x)] st A Q ↔ XX d 85 3 [v0, v1, some (.int x)] (.int x :: st) A Q := c_lcl i_85_2 rfl rfl
theorem q_85_3 : XX d 85 3 [v0, some (.int x), v2] st A Q ↔ XX d 85 4 [v0, some (.int x), v2] (.int x :: st) A Q := c_lcl i_85_3 rfl rfl
theorem q_85_4 : XX d 85 4 [v0, v1, v2] (.int y :: .int x :: st) A Q ↔ if y < x then XX d 85 19 [v0, v1, v2] st A Q else XX d 85 7 [v0, v1, v2] st A Q := b_gt i_85_4 rfl rfl rfl
theorem q_85_7 : XX d 85 7 [some (.ref a), v1, v2] st A Q ↔ XX d 85 8 [some (.ref a), v1, v2] (.ref a :: st) A Q := c_lcl i_85_7 rfl rfl
theorem q_85_8 : XX d 85 8 [v0, v1, some (.int x)] st A Q ↔ XX d 85 9 [v0, v1, some (.int x)] (.int x :: st) A Q := c_lcl i_85_8 rfl rfl
theorem q_85_9 : XX (d + 1) 85 9 [v0, v1, v2] [.int x1, .ref a0] (mk S I L R G) Q ↔ S a0 = some (.inr 9) ∧ XC d 84 [.ref a0, .int x1] (mk S I L R G) (XK (d + 1) 85 9 [v0, v1, v2] [] Q) := c_callV i_85_9 rfl rfl rfl rfl (Nat.le_of_ble_eq_true rfl) (Nat.le_of_ble_eq_true rfl) rfl
theorem q_85_12 : XX d 85 12 [v0, v1, v2] (.int x1 :: st) A Q ↔ XX d 85 13 [v0, v1, v2] st A Q := c_stk i_85_12 rfl
theorem q_85_13 : XX d 85 13 [v0, some (.int z), some (.int x)] st A Q ↔ XX d 85 16 [v0, some (.int z), some (.int (x + w 1))] st A Q := c_lcl i_85_13 rfl rfl
theorem q_85_16 : XX d 85 16 [v0, v1, v2] st A Q ↔ XX d 85 2 [v0, v1, v2] st A Q := c_go i_85_16 rfl rfl
theorem q_85_19 : XX d 85 19 [v0, v1, v2] [] A Q ↔ Q (.inl none) A := e_retN i_85_19 rfl
theorem q_85_e : XC d 85 [.ref a0, .int x1] A Q ↔ XX d 85 0 [some (.ref a0), some (.int x1), none] [] A Q := Iff.rfl
theorem i_86_0 : t_ins 86 0 = some (.iload_n 1) := by decide +kernel
theorem i_86_1 : t_ins 86 1 = some (.ifCond .lt 25) := by decide +kernel
theorem i_86_4 : t_ins 86 4 = some (.iload_n 1) := by decide +kernel
theorem i_86_5 : t_ins 86 5 = some (.bipush 30) := by decide +kernel
theorem i_86_7 : t_ins 86 7 = some (.if_icmp .ge 19) := by decide +kernel
theorem i_86_10 : t_ins 86 10 = some (.aload_n 0) := by decide +kernel
theorem i_86_11 : t_ins 86 11 = some (.getfield 35) := by decide +kernel
theorem i_86_14 : t_ins 86 14 = some (.iload_n 1) := by decide +kernel
theorem i_86_15 : t_ins 86 15 = some (.iushr) := by decide +kernel
theorem i_86_16 : t_ins 86 16 = some (.iconst 1) := by decide +kernel
theorem i_86_17 : t_ins 86 17 = some (.iand) := by decide +kernel
theorem i_86_18 : t_ins 86 18 = some (.iconst 1) := by decide +kernel
theorem i_86_19 : t_ins 86 19 = some (.if_icmp .ne 7) := by decide +kernel
theorem i_86_22 : t_ins 86 22 = some (.iconst 1) := by decide +kernel
theorem i_86_23 : t_ins 86 23 = some (.goto 4) := by decide +kernel
theorem i_86_26 : t_ins 86 26 = some (.iconst 0) := by decide +kernel
theorem i_86_27 : t_ins 86 27 = some (.ireturn) := by decide +kernel
theorem q_86_0 : XX d 86 0 [v0, some (.int x)] st A Q ↔ XX d 86 1 [v0, some (.int x)] (.int x :: st) A Q := c_lcl i_86_0 rfl rfl
theorem q_86_1 : XX d 86 1 [v0, v1] (.int x :: st) A Q ↔ if x < w 0 then XX d 86 26 [v0, v1] st A Q else XX d 86 4 [v0, v1] st A Q := z_lt i_86_1 rfl rfl rfl
theorem q_86_4 : XX d 86 4 [v0, some (.int x)] st A Q ↔ XX d 86 5 [v0, some (.int x)] (.int x :: st) A Q := c_lcl i_86_4 rfl rfl
theorem q_86_5 : XX d 86 5 [v0, v1] st A Q ↔ XX d 86 7 [v0, v1] (.int (w 30) :: st) A Q := c_stk i_86_5 rfl
theorem q_86_7 : XX d 86 7 [v0, v1] (.int y :: .int x :: st) A Q ↔ if x < y then XX d 86 10 [v0, v1] st A Q else XX d 86 26 [v0, v1] st A Q := b_ge i_86_7 rfl rfl rfl
theorem q_86_10 : XX d 86 10 [some (.ref a), v1] st A Q ↔ XX d 86 11 [some (.ref a), v1] (.ref a :: st) A Q := c_lcl i_86_10 rfl rfl
theorem q_86_11 : XX d 86 11 [v0, v1] (.ref a :: st) (mk S I L R G) Q ↔ S a = some (.inr 9) ∧ XX d 86 14 [v0, v1] (.int (I a 4) :: st) (mk S I L R G) Q := r_gf i_86_11 rfl (by decide) rfl
theorem q_86_14 : XX d 86 14 [v0, some (.int x)] st A Q ↔ XX d 86 15 [v0, some (.int x)] (.int x :: st) A Q := c_lcl i_86_14 rfl rfl
theorem q_86_15 : XX d 86 15 [v0, v1] (.int y :: .int x :: st) A Q ↔ XX d 86 16 [v0, v1] (.int ((x.toUInt32 >>> (y.toUInt32 &&& Int32.toUInt32 31)).toInt32) :: st) A Q := c_stk i_86_15 rfl
theorem q_86_16 : XX d 86 16 [v0, v1] st A Q ↔ XX d 86 17 [v0, v1] (.int (w 1) :: st) A Q := c_stk i_86_16 rfl
theorem q_86_17 : XX d 86 17 [v0, v1] (.int y :: .int x :: st) A Q ↔ XX d 86 18 [v0, v1] (.int (x &&& y) :: st) A Q := c_stk i_86_17 rfl
theorem q_86_18 : XX d 86 18 [v0, v1] st A Q ↔ XX d 86 19 [v0, v1] (.int (w 1) :: st) A Q := c_stk i_86_18 rfl
theorem q_86_19 : XX d 86 19 [v0, v1] (.int y :: .int x :: st) A Q ↔ if x = y then XX d 86 22 [v0, v1] st A Q else XX d 86 26 [v0, v1] st A Q := b_ne i_86_19 rfl rfl rfl
theorem q_86_22 : XX d 86 22 [v0, v1] st A Q ↔ XX d 86 23 [v0, v1] (.int (w 1) :: st) A Q := c_stk i_86_22 rfl
theorem q_86_23 : XX d 86 23 [v0, v1] st A Q ↔ XX d 86 27 [v0, v1] st A Q := c_go i_86_23 rfl rfl
theorem q_86_26 : XX d 86 26 [v0, v1] st A Q ↔ XX d 86 27 [v0, v1] (.int (w 0) :: st) A Q := c_stk i_86_26 rfl
theorem q_86_27 : XX d 86 27 [v0, v1] [.int x] A Q ↔ (x = w 0 ∨ x = w 1) ∧ Q (.inl (some (.int x))) A := e_retZ i_86_27 rfl
theorem q_86_e : XC d 86 [.ref a0, .int x1] A Q ↔ XX d 86 0 [some (.ref a0), some (.int x1)] [] A Q := Iff.rfl
theorem i_87_0 : t_ins 87 0 = some (.aload_n 0) := by decide +kernel
theorem i_87_1 : t_ins 87 1 = some (.iconst 1) := by decide +kernel
theorem i_87_2 : t_ins 87 2 = some (.putfield 55) := by decide +kernel
theorem i_87_5 : t_ins 87 5 = some (.aload_n 0) := by decide +kernel
theorem i_87_6 : t_ins 87 6 = some (.iconst 0) := by decide +kernel
theorem i_87_7 : t_ins 87 7 = some (.putfield 52) := by decide +kernel
theorem i_87_10 : t_ins 87 10 = some (.aload_n 0) := by decide +kernel
theorem i_87_11 : t_ins 87 11 = some (.getfield 21) := by decide +kernel
theorem i_87_14 : t_ins 87 14 = some (.iconst 0) := by decide +kernel
theorem i_87_15 : t_ins 87 15 = some (.putfield 97) := by decide +kernel
theorem i_87_18 : t_ins 87 18 = some (.aload_n 0) := by decide +kernel
theorem i_87_19 : t_ins 87 19 = some (.iload_n 1) := by decide +kernel
theorem i_87_20 : t_ins 87 20 = some (.iconst 0) := by decide +kernel
theorem i_87_21 : t_ins 87 21 = some (.invokevirtual 83) := by decide +kernel
theorem i_87_24 : t_ins 87 24 = some (.ifCond .eq 7) := by decide +kernel
theorem i_87_27 : t_ins 87 27 = some (.iconst 0) := by decide +kernel
theorem i_87_28 : t_ins 87 28 = some (.goto 10) := by decide +kernel
theorem i_87_31 : t_ins 87 31 = some (.aload_n 0) := by decide +kernel
theorem i_87_32 : t_ins 87 32 = some (.getfield 21) := by decide +kernel
theorem i_87_35 : t_ins 87 35 = some (.getfield 97) := by decide +kernel
theorem i_87_38 : t_ins 87 38 = some (.ireturn) := by decide +kernel
theorem q_87_0 : XX d 87 0 [some (.ref a), v1] st A Q ↔ XX d 87 1 [some (.ref a), v1] (.ref a :: st) A Q := c_lcl i_87_0 rfl rfl
theorem q_87_1 : XX d 87 1 [v0, v1] st A Q ↔ XX d 87 2 [v0, v1] (.int (w 1) :: st) A Q := c_stk i_87_1 rfl
theorem q_87_2 : XX d 87 2 [v0, v1] (.int x :: .ref a :: st) (mk S I L R G) Q ↔ (x = w 0 ∨ x = w 1) ∧ S a = some (.inr 9) ∧ XX d 87 5 [v0, v1] st (mk S (wr I a (up (I a) 10 x)) L R G) Q := r_pfz i_87_2 rfl (by decide) rfl rfl rfl
theorem q_87_5 : XX d 87 5 [some (.ref a), v1] st A Q ↔ XX d 87 6 [some (.ref a), v1] (.ref a :: st) A Q := c_lcl i_87_5 rfl rfl
theorem q_87_6 : XX d 87 6 [v0, v1] st A Q ↔ XX d 87 7 [v0, v1] (.int (w 0) :: st) A Q := c_stk i_87_6 rfl
theorem q_87_7 : XX d 87 7 [v0, v1] (.int x :: .ref a :: st) (mk S I L R G) Q ↔ S a = some (.inr 9) ∧ XX d 87 10 [v0, v1] st (mk S (wr I a (up (I a) 9 x)) L R G) Q := r_pf i_87_7 rfl (by decide) rfl rfl rfl
theorem q_87_10 : XX d 87 10 [some (.ref a), v1] st A Q ↔ XX d 87 11 [some (.ref a), v1] (.ref a :: st) A Q := c_lcl i_87_10 rfl rfl
theorem q_87_11 : XX d 87 11 [v0, v1] (.ref a :: st) (mk S I L R G) Q ↔ S a = some (.inr 9) ∧ XX d 87 14 [v0, v1] (.ref (a + 7) :: st) (mk S I L R G) Q := r_gf i_87_11 rfl (by decide) rfl
theorem q_87_14 : XX d 87 14 [v0, v1] st A Q ↔ XX d 87 15 [v0, v1] (.int (w 0) :: st) A Q := c_stk i_87_14 rfl
theorem q_87_15 : XX d 87 15 [v0, v1] (.int x :: .ref a :: st) (mk S I L R G) Q ↔ S a = some (.inr 1) ∧ XX d 87 18 [v0, v1] st (mk S (wr I a (up (I a) 4 x)) L R G) Q := r_pf i_87_15 rfl (by decide) rfl rfl rfl
theorem q_87_18 : XX d 87 18 [some (.ref a), v1] st A Q ↔ XX d 87 19 [some (.ref a), v1] (.ref a :: st) A Q := c_lcl i_87_18 rfl rfl
theorem q_87_19 : XX d 87 19 [v0, some (.int x)] st A Q ↔ XX d 87 20 [v0, some (.int x)] (.int x :: st) A Q := c_lcl i_87_19 rfl rfl
theorem q_87_20 : XX d 87 20 [v0, v1] st A Q ↔ XX d 87 21 [v0, v1] (.int (w 0) :: st) A Q := c_stk i_87_20 rfl
theorem q_87_21 : XX (d + 1) 87 21 [v0, v1] [.int x2, .int x1, .ref a0] (mk S I L R G) Q ↔ S a0 = some (.inr 9) ∧ XC d 89 [.ref a0, .int x1, .int x2] (mk S I L R G) (XK (d + 1) 87 21 [v0, v1] [] Q) := c_callV i_87_21 rfl rfl rfl rfl (Nat.le_of_ble_eq_true rfl) (Nat.le_of_ble_eq_true rfl) rfl
theorem q_87_24 : XX d 87 24 [v0, v1] (.int x :: st) A Q ↔ if x = w 0 then XX d 87 31 [v0, v1] st A Q else XX d 87 27 [v0, v1] st A Q := z_eq i_87_24 rfl rfl rfl
theorem q_87_27 : XX d 87 27 [v0, v1] st A Q ↔ XX d 87 28 [v0, v1] (.int (w 0) :: st) A Q := c_stk i_87_27 rfl
theorem q_87_28 : XX d 87 28 [v0, v1] st A Q ↔ XX d 87 38 [v0, v1] st A Q := c_go i_87_28 rfl rfl
theorem q_87_31 : XX d 87 31 [some (.ref a), v1] st A Q ↔ XX d 87 32 [some (.ref a), v1] (.ref a :: st) A Q := c_lcl i_87_31 rfl rfl
theorem q_87_32 : XX d 87 32 [v0, v1] (.ref a :: st) (mk S I L R G) Q ↔ S a = some (.inr 9) ∧ XX d 87 35 [v0, v1] (.ref (a + 7) :: st) (mk S I L R G) Q := r_gf i_87_32 rfl (by decide) rfl
theorem q_87_35 : XX d 87 35 [v0, v1] (.ref a :: st) (mk S I L R G) Q ↔ S a = some (.inr 1) ∧ XX d 87 38 [v0, v1] (.int (I a 4) :: st) (mk S I L R G) Q := r_gf i_87_35 rfl (by decide) rfl
theorem q_87_38 : XX d 87 38 [v0, v1] [.int x] A Q ↔ Q (.inl (some (.int x))) A := e_retI i_87_38 rfl
theorem q_87_e : XC d 87 [.ref a0, .int x1] A Q ↔ XX d 87 0 [some (.ref a0), some (.int x1)] [] A Q := Iff.rfl
theorem i_88_0 : t_ins 88 0 = some (.iconst 0) := by decide +kernel
theorem i_88_1 : t_ins 88 1 = some (.istore 4) := by decide +kernel
theorem i_88_3 : t_ins 88 3 = some (.iconst 0) := by decide +kernel
theorem i_88_4 : t_ins 88 4 = some (.istore 5) := by decide +kernel
theorem i_88_6 : t_ins 88 6 = some (.iload 5) := by decide +kernel
theorem i_88_8 : t_ins 88 8 = some (.iload_n 2) := by decide +kernel
theorem i_88_9 : t_ins 88 9 = some (.if_icmp .gt 61) := by decide +kernel
theorem i_88_12 : t_ins 88 12 = some (.iload 4) := by decide +kernel
theorem i_88_14 : t_ins 88 14 = some (.iload_n 3) := by decide +kernel
theorem i_88_15 : t_ins 88 15 = some (.if_icmp .ge 55) := by decide +kernel
theorem i_88_18 : t_ins 88 18 = some (.aload_n 0) := by decide +kernel
theorem i_88_19 : t_ins 88 19 = some (.iload 5) := by decide +kernel
theorem i_88_21 : t_ins 88 21 = some (.invokevirtual 94) := by decide +kernel
theorem i_88_24 : t_ins 88 24 = some (.aload_n 1) := by decide +kernel
theorem i_88_25 : t_ins 88 25 = some (.iload 5) := by decide +kernel
theorem i_88_27 : t_ins 88 27 = some (.invokevirtual 94) := by decide +kernel
theorem i_88_30 : t_ins 88 30 = some (.if_icmp .ne 7) := by decide +kernel
theorem i_88_33 : t_ins 88 33 = some (.iconst 1) := by decide +kernel
theorem i_88_34 : t_ins 88 34 = some (.goto 4) := by decide +kernel
theorem i_88_37 : t_ins 88 37 = some (.iconst 0) := by decide +kernel
theorem i_88_38 : t_ins 88 38 = some (.istore 6) := by decide +kernel
theorem i_88_40 : t_ins 88 40 = some (.iload 6) := by decide +kernel
theorem i_88_42 : t_ins 88 42 = some (.ifCond .eq 19) := by decide +kernel
theorem i_88_45 : t_ins 88 45 = some (.aload_n 0) := by decide +kernel
theorem i_88_46 : t_ins 88 46 = some (.getfield 12) := by decide +kernel
theorem i_88_49 : t_ins 88 49 = some (.aload_n 1) := by decide +kernel
theorem i_88_50 : t_ins 88 50 = some (.getfield 12) := by decide +kernel
theorem i_88_53 : t_ins 88 53 = some (.iload 5) := by decide +kernel
theorem i_88_55 : t_ins 88 55 = some (.invokevirtual 100) := by decide +kernel
theorem i_88_58 : t_ins 88 58 = some (.ifCond .ne 6) := by decide +kernel
theorem i_88_61 : t_ins 88 61 = some (.iinc 4 1) := by decide +kernel
theorem i_88_64 : t_ins 88 64 = some (.iinc 5 1) := by decide +kernel
theorem i_88_67 : t_ins 88 67 = some (.goto (-61)) := by decide +kernel
theorem i_88_70 : t_ins 88 70 = some (.iload 4) := by decide +kernel
theorem i_88_72 : t_ins 88 72 = some (.ireturn) := by decide +kernel
theorem q_88_0 : XX d 88 0 [v0, v1, v2, v3, v4, v5, v6] st A Q ↔ XX d 88 1 [v0, v1, v2, v3, v4, v5, v6] (.int (w 0) :: st) A Q := c_stk i_88_0 rfl
theorem q_88_1 : XX d 88 1 [v0, v1, v2, some (.int z), v4, v5, v6] (.int x :: st) A Q ↔ XX d 88 3 [v0, v1, v2, some (.int z), some (.int x), v5, v6] st A Q := c_lcl i_88_1 rfl rfl
theorem q_88_3 : XX d 88 3 [v0, v1, v2, v3, v4, v5, v6] st A Q ↔ XX d 88 4 [v0, v1, v2, v3, v4, v5, v6] (.int (w 0) :: st) A Q := c_stk i_88_3 rfl
theorem q_88_4 : XX d 88 4 [v0, v1, v2, v3, some (.int z), v5, v6] (.int x :: st) A Q ↔ XX d 88 6 [v0, v1, v2, v3, some (.int z), some (.int x), v6] st A Q := c_lcl i_88_4 rfl rfl
theorem q_88_6 : XX d 88 6 [v0, v1, v2, v3, v4, some (.int x), v6] st A Q ↔ XX d 88 8 [v0, v1, v2, v3, v4, some (.int x), v6] (.int x :: st) A Q := c_lcl i_88_6 rfl rfl
theorem q_88_8 : XX d 88 8 [v0, v1, some (.int x), v3, v4, v5, v6] st A Q ↔ XX d 88 9 [v0, v1, some (.int x), v3, v4, v5, v6] (.int x :: st) A Q := c_lcl i_88_8 rfl rfl
theorem q_88_9 : XX d 88 9 [v0, v1, v2, v3, v4, v5, v6] (.int y :: .int x :: st) A Q ↔ if y < x then XX d 88 70 [v0, v1, v2, v3, v4, v5, v6] st A Q else XX d 88 12 [v0, v1, v2, v3, v4, v5, v6] st A Q := b_gt i_88_9 rfl rfl rfl
theorem q_88_12 : XX d 88 12 [v0, v1, v2, v3, some (.int x), v5, v6] st A Q ↔ XX d 88 14 [v0, v1, v2, v3, some (.int x), v5, v6] (.int x :: st) A Q := c_lcl i_88_12 rfl rfl
theorem q_88_14 : XX d 88 14 [v0, v1, v2, some (.int x), v4, v5, v6] st A Q ↔ XX d 88 15 [v0, v1, v2, some (.int x), v4, v5, v6] (.int x :: st) A Q := c_lcl i_88_14 rfl rfl
theorem q_88_15 : XX d 88 15 [v0, v1, v2, v3, v4, v5, v6] (.int y :: .int x :: st) A Q ↔ if x < y then XX d 88 18 [v0, v1, v2, v3, v4, v5, v6] st A Q else XX d 88 70 [v0, v1, v2, v3, v4, v5, v6] st A Q := b_ge i_88_15 rfl rfl rfl
theorem q_88_18 : XX d 88 18 [some (.ref a), v1, v2, v3, v4, v5, v6] st A Q ↔ XX d 88 19 [some (.ref a), v1, v2, v3, v4, v5, v6] (.ref a :: st) A Q := c_lcl i_88_18 rfl rfl
theorem q_88_19 : XX d 88 19 [v0, v1, v2, v3, v4, some (.int x), v6] st A Q ↔ XX d 88 21 [v0, v1, v2, v3, v4, some (.int x), v6] (.int x :: st) A Q := c_lcl i_88_19 rfl rfl
theorem q_88_21 : XX (d + 1) 88 21 [v0, v1, v2, v3, v4, v5, v6] [.int x1, .ref a0] (mk S I L R G) Q ↔ S a0 = some (.inr 9) ∧ XC d 84 [.ref a0, .int x1] (mk S I L R G) (XK (d + 1) 88 21 [v0, v1, v2, v3, v4, v5, v6] [] Q) := c_callV i_88_21 rfl rfl rfl rfl (Nat.le_of_ble_eq_true rfl) (Nat.le_of_ble_eq_true rfl) rfl
theorem q_88_24 : XX d 88 24 [v0, some (.ref a), v2, v3, v4, v5, v6] st A Q ↔ XX d 88 25 [v0, some (.ref a), v2, v3, v4, v5, v6] (.ref a :: st) A Q := c_lcl i_88_24 rfl rfl
theorem q_88_25 : XX d 88 25 [v0, v1, v2, v3, v4, some (.int x), v6] st A Q ↔ XX d 88 27 [v0, v1, v2, v3, v4, some (.int x), v6] (.int x :: st) A Q := c_lcl i_88_25 rfl rfl
theorem q_88_27 : XX (d + 1) 88 27 [v0, v1, v2, v3, v4, v5, v6] [.int x1, .ref a0, .int x2] (mk S I L R G) Q ↔ S a0 = some (.inr 9) ∧ XC d 84 [.ref a0, .int x1] (mk S I L R G) (XK (d + 1) 88 27 [v0, v1, v2, v3, v4, v5, v6] [.int x2] Q) := c_callV i_88_27 rfl rfl rfl rfl (Nat.le_of_ble_eq_true rfl) (Nat.le_of_ble_eq_true rfl) rfl
theorem q_88_30 : XX d 88 30 [v0, v1, v2, v3, v4, v5, v6] (.int y :: .int x :: st) A Q ↔ if x = y then XX d 88 33 [v0, v1, v2, v3, v4, v5, v6] st A Q else XX d 88 37 [v0, v1, v2, v3, v4, v5, v6] st A Q := b_ne i_88_30 rfl rfl rfl
theorem q_88_33 : XX d 88 33 [v0, v1, v2, v3, v4, v5, v6] st A Q ↔ XX d 88 34 [v0, v1, v2, v3, v4, v5, v6] (.int (w 1) :: st) A Q := c_stk i_88_33 rfl
theorem q_88_34 : XX d 88 34 [v0, v1, v2, v3, v4, v5, v6] st A Q ↔ XX d 88 38 [v0, v1, v2, v3, v4, v5, v6] st A Q := c_go i_88_34 rfl rfl
theorem q_88_37 : XX d 88 37 [v0, v1, v2, v3, v4, v5, v6] st A Q ↔ XX d 88 38 [v0, v1, v2, v3, v4, v5, v6] (.int (w 0) :: st) A Q := c_stk i_88_37 rfl
theorem q_88_38 : XX d 88 38 [v0, v1, v2, v3, v4, some (.int z), v6] (.int x :: st) A Q ↔ XX d 88 40 [v0, v1, v2, v3, v4, some (.int z), some (.int x)] st A Q := c_lcl i_88_38 rfl rfl
theorem q_88_40 : XX d 88 40 [v0, v1, v2, v3, v4, v5, some (.int x)] st A Q ↔ XX d 88 42 [v0, v1, v2, v3, v4, v5, some (.int x)] (.int x :: st) A Q := c_lcl i_88_40 rfl rfl
theorem q_88_42 : XX d 88 42 [v0, v1, v2, v3, v4, v5, v6] (.int x :: st) A Q ↔ if x = w 0 then XX d 88 61 [v0, v1, v2, v3, v4, v5, v6] st A Q else XX d 88 45 [v0, v1, v2, v3, v4, v5, v6] st A Q := z_eq i_88_42 rfl rfl rfl
theorem q_88_45 : XX d 88 45 [some (.ref a), v1, v2, v3, v4, v5, v6] st A Q ↔ XX d 88 46 [some (.ref a), v1, v2, v3, v4, v5, v6] (.ref a :: st) A Q := c_lcl i_88_45 rfl rfl
theorem q_88_46 : XX d 88 46 [v0, v1, v2, v3, v4, v5, v6] (.ref a :: st) (mk S I L R G) Q ↔ S a = some (.inr 9) ∧ XX d 88 49 [v0, v1, v2, v3, v4, v5, v6] (.ref (a + 1) :: st) (mk S I L R G) Q := r_gf i_88_46 rfl (by decide) rfl
theorem q_88_49 : XX d 88 49 [v0, some (.ref a), v2, v3, v4, v5, v6] st A Q ↔ XX d 88 50 [v0, some (.ref a), v2, v3, v4, v5, v6] (.ref a :: st) A Q := c_lcl i_88_49 rfl rfl
theorem q_88_50 : XX d 88 50 [v0, v1, v2, v3, v4, v5, v6] (.ref a :: st) (mk S I L R G) Q ↔ S a = some (.inr 9) ∧ XX d 88 53 [v0, v1, v2, v3, v4, v5, v6] (.ref (a + 1) :: st) (mk S I L R G) Q := r_gf i_88_50 rfl (by decide) rfl
theorem q_88_53 : XX d 88 53 [v0, v1, v2, v3, v4, some (.int x), v6] st A Q ↔ XX d 88 55 [v0, v1, v2, v3, v4, some (.int x), v6] (.int x :: st) A Q := c_lcl i_88_53 rfl rfl
theorem q_88_55 : XX (d + 1) 88 55 [v0, v1, v2, v3, v4, v5, v6] [.int x2, .ref a1, .ref a0] (mk S I L R G) Q ↔ S a0 = some (.inr 4) ∧ XC d 40 [.ref a0, .ref a1, .int x2] (mk S I L R G) (XK (d + 1) 88 55 [v0, v1, v2, v3, v4, v5, v6] [] Q) := c_callV i_88_55 rfl rfl rfl rfl (Nat.le_of_ble_eq_true rfl) (Nat.le_of_ble_eq_true rfl) rfl
theorem q_88_58 : XX d 88 58 [v0, v1, v2, v3, v4, v5, v6] (.int x :: st) A Q ↔ if x = w 0 then XX d 88 61 [v0, v1, v2, v3, v4, v5, v6] st A Q else XX d 88 64 [v0, v1, v2, v3, v4, v5, v6] st A Q := z_ne i_88_58 rfl rfl rfl
theorem q_88_61 : XX d 88 61 [v0, v1, v2, some (.int z), some (.int x), v5, v6] st A Q ↔ XX d 88 64 [v0, v1, v2, some (.int z), some (.int (x + w 1)), v5, v6] st A Q := c_lcl i_88_61 rfl rfl
theorem q_88_64 : XX d 88 64 [v0, v1, v2, v3, some (.int z), some (.int x), v6] st A Q ↔ XX d 88 67 [v0, v1, v2, v3, some (.int z), some (.int (x + w 1)), v6] st A Q := c_lcl i_88_64 rfl rfl
theorem q_88_67 : XX d 88 67 [v0, v1, v2, v3, v4, v5, v6] st A Q ↔ XX d 88 6 [v0, v1, v2, v3, v4, v5, v6] st A Q := c_go i_88_67 rfl rfl
theorem q_88_70 : XX d 88 70 [v0, v1, v2, v3, some (.int x), v5, v6] st A Q ↔ XX d 88 72 [v0, v1, v2, v3, some (.int x), v5, v6] (.int x :: st) A Q := c_lcl i_88_70 rfl rfl
theorem q_88_72 : XX d 88 72 [v0, v1, v2, v3, v4, v5, v6] [.int x] A Q ↔ Q (.inl (some (.int x))) A := e_retI i_88_72 rfl
theorem q_88_e : XC d 88 [.ref a0, .ref a1, .int x2, .int x3] A Q ↔ XX d 88 0 [some (.ref a0), some (.ref a1), some (.int x2), some (.int x3), none, none, none] [] A Q := Iff.rfl
theorem i_89_0 : t_ins 89 0 = some (.aload_n 0) := by decide +kernel
theorem i_89_1 : t_ins 89 1 = some (.iload_n 1) := by decide +kernel
theorem i_89_2 : t_ins 89 2 = some (.iload_n 2) := by decide +kernel
theorem i_89_3 : t_ins 89 3 = some (.invokevirtual 104) := by decide +kernel
theorem i_89_6 : t_ins 89 6 = some (.istore_n 3) := by decide +kernel
theorem i_89_7 : t_ins 89 7 = some (.iload_n 3) := by decide +kernel
theorem i_89_8 : t_ins 89 8 = some (.iconst (-1)) := by decide +kernel
theorem i_89_9 : t_ins 89 9 = some (.if_icmp .ne 13) := by decide +kernel
theorem i_89_12 : t_ins 89 12 = some (.iload_n 2) := by decide +kernel
theorem i_89_13 : t_ins 89 13 = some (.ifCond .lt 9) := by decide +kernel
theorem i_89_16 : t_ins 89 16 = some (.iload_n 2) := by decide +kernel
theorem i_89_17 : t_ins 89 17 = some (.bipush 30) := by decide +kernel
theorem i_89_19 : t_ins 89 19 = some (.if_icmp .lt 16) := by decide +kernel
theorem i_89_22 : t_ins 89 22 = some (.aload_n 0) := by decide +kernel
theorem i_89_23 : t_ins 89 23 = some (.getfield 21) := by decide +kernel
theorem i_89_26 : t_ins 89 26 = some (.iload_n 2) := by decide +kernel
theorem i_89_27 : t_ins 89 27 = some (.iload_n 1) := by decide +kernel
theorem i_89_28 : t_ins 89 28 = some (.iload_n 3) := by decide +kernel
theorem i_89_29 : t_ins 89 29 = some (.iconst (-1)) := by decide +kernel
theorem i_89_30 : t_ins 89 30 = some (.iconst (-1)) := by decide +kernel
theorem i_89_31 : t_ins 89 31 = some (.invokevirtual 108) := by decide +kernel
theorem i_89_34 : t_ins 89 34 = some (.ireturn) := by decide +kernel
theorem i_89_35 : t_ins 89 35 = some (.iload_n 2) := by decide +kernel
theorem i_89_36 : t_ins 89 36 = some (.ifCond .le 13) := by decide +kernel
theorem i_89_39 : t_ins 89 39 = some (.aload_n 0) := by decide +kernel
theorem i_89_40 : t_ins 89 40 = some (.dup) := by decide +kernel
theorem i_89_41 : t_ins 89 41 = some (.getfield 52) := by decide +kernel
theorem i_89_44 : t_ins 89 44 = some (.iconst 1) := by decide +kernel
theorem i_89_45 : t_ins 89 45 = some (.iadd) := by decide +kernel
theorem i_89_46 : t_ins 89 46 = some (.putfield 52) := by decide +kernel
theorem i_89_49 : t_ins 89 49 = some (.aload_n 0) := by decide +kernel
theorem i_89_50 : t_ins 89 50 = some (.iload_n 1) := by decide +kernel
theorem i_89_51 : t_ins 89 51 = some (.iload_n 2) := by decide +kernel
theorem i_89_52 : t_ins 89 52 = some (.invokevirtual 112) := by decide +kernel
theorem i_89_55 : t_ins 89 55 = some (.ifCond .eq 5) := by decide +kernel
theorem i_89_58 : t_ins 89 58 = some (.iconst 1) := by decide +kernel
theorem i_89_59 : t_ins 89 59 = some (.ireturn) := by decide +kernel
theorem i_89_60 : t_ins 89 60 = some (.aload_n 0) := by decide +kernel
theorem i_89_61 : t_ins 89 61 = some (.getfield 55) := by decide +kernel
theorem i_89_64 : t_ins 89 64 = some (.ifCond .ne 16) := by decide +kernel
theorem i_89_67 : t_ins 89 67 = some (.aload_n 0) := by decide +kernel
theorem i_89_68 : t_ins 89 68 = some (.getfield 12) := by decide +kernel
theorem i_89_71 : t_ins 89 71 = some (.iload_n 1) := by decide +kernel
theorem i_89_72 : t_ins 89 72 = some (.invokevirtual 115) := by decide +kernel
theorem i_89_75 : t_ins 89 75 = some (.ifCond .eq 5) := by decide +kernel
theorem i_89_78 : t_ins 89 78 = some (.iconst 0) := by decide +kernel
theorem i_89_79 : t_ins 89 79 = some (.ireturn) := by decide +kernel
theorem i_89_80 : t_ins 89 80 = some (.aload_n 0) := by decide +kernel
theorem i_89_81 : t_ins 89 81 = some (.iload_n 1) := by decide +kernel
theorem i_89_82 : t_ins 89 82 = some (.invokevirtual 76) := by decide +kernel
theorem i_89_85 : t_ins 89 85 = some (.istore 4) := by decide +kernel
theorem i_89_87 : t_ins 89 87 = some (.iload 4) := by decide +kernel
theorem i_89_89 : t_ins 89 89 = some (.iconst (-1)) := by decide +kernel
theorem i_89_90 : t_ins 89 90 = some (.if_icmp .ne 16) := by decide +kernel
theorem i_89_93 : t_ins 89 93 = some (.aload_n 0) := by decide +kernel
theorem i_89_94 : t_ins 89 94 = some (.getfield 21) := by decide +kernel
theorem i_89_97 : t_ins 89 97 = some (.iload_n 2) := by decide +kernel
theorem i_89_98 : t_ins 89 98 = some (.iload_n 1) := by decide +kernel
theorem i_89_99 : t_ins 89 99 = some (.iconst 1) := by decide +kernel
theorem i_89_100 : t_ins 89 100 = some (.iconst (-1)) := by decide +kernel
theorem i_89_101 : t_ins 89 101 = some (.iconst (-1)) := by decide +kernel
theorem i_89_102 : t_ins 89 102 = some (.invokevirtual 108) := by decide +kernel
theorem i_89_105 : t_ins 89 105 = some (.ireturn) := by decide +kernel
theorem i_89_106 : t_ins 89 106 = some (.aload_n 0) := by decide +kernel
theorem i_89_107 : t_ins 89 107 = some (.dup) := by decide +kernel
theorem i_89_108 : t_ins 89 108 = some (.getfield 35) := by decide +kernel
theorem i_89_111 : t_ins 89 111 = some (.iconst 1) := by decide +kernel
theorem i_89_112 : t_ins 89 112 = some (.iload 4) := by decide +kernel
theorem i_89_114 : t_ins 89 114 = some (.ishl) := by decide +kernel
theorem i_89_115 : t_ins 89 115 = some (.ior) := by decide +kernel
theorem i_89_116 : t_ins 89 116 = some (.putfield 35) := by decide +kernel
theorem i_89_119 : t_ins 89 119 = some (.aload_n 0) := by decide +kernel
theorem i_89_120 : t_ins 89 120 = some (.getfield 38) := by decide +kernel
theorem i_89_123 : t_ins 89 123 = some (.iload_n 2) := by decide +kernel
theorem i_89_124 : t_ins 89 124 = some (.iload_n 1) := by decide +kernel
theorem i_89_125 : t_ins 89 125 = some (.iastore) := by decide +kernel
theorem i_89_126 : t_ins 89 126 = some (.aload_n 0) := by decide +kernel
theorem i_89_127 : t_ins 89 127 = some (.getfield 46) := by decide +kernel
theorem i_89_130 : t_ins 89 130 = some (.iload_n 2) := by decide +kernel
theorem i_89_131 : t_ins 89 131 = some (.iconst 0) := by decide +kernel
theorem i_89_132 : t_ins 89 132 = some (.iastore) := by decide +kernel
theorem i_89_133 : t_ins 89 133 = some (.aload_n 0) := by decide +kernel
theorem i_89_134 : t_ins 89 134 = some (.getfield 49) := by decide +kernel
theorem i_89_137 : t_ins 89 137 = some (.iload_n 2) := by decide +kernel
theorem i_89_138 : t_ins 89 138 = some (.iconst 1) := by decide +kernel
theorem i_89_139 : t_ins 89 139 = some (.iastore) := by decide +kernel
theorem i_89_140 : t_ins 89 140 = some (.aload_n 0) := by decide +kernel
theorem i_89_141 : t_ins 89 141 = some (.getfield 52) := by decide +kernel
theorem i_89_144 : t_ins 89 144 = some (.istore 5) := by decide +kernel
theorem i_89_146 : t_ins 89 146 = some (.aload_n 0) := by decide +kernel
theorem i_89_147 : t_ins 89 147 = some (.iload_n 1) := by decide +kernel
theorem i_89_148 : t_ins 89 148 = some (.iload 4) := by decide +kernel
theorem i_89_150 : t_ins 89 150 = some (.iload_n 2) := by decide +kernel
theorem i_89_151 : t_ins 89 151 = some (.invokevirtual 118) := by decide +kernel
theorem i_89_154 : t_ins 89 154 = some (.ifCond .ne 5) := by decide +kernel
theorem i_89_157 : t_ins 89 157 = some (.iconst 0) := by decide +kernel
theorem i_89_158 : t_ins 89 158 = some (.ireturn) := by decide +kernel
theorem i_89_159 : t_ins 89 159 = some (.aload_n 0) := by decide +kernel
theorem i_89_160 : t_ins 89 160 = some (.getfield 12) := by decide +kernel
theorem i_89_163 : t_ins 89 163 = some (.iload_n 1) := by decide +kernel
theorem i_89_164 : t_ins 89 164 = some (.aload_n 0) := by decide +kernel
theorem i_89_165 : t_ins 89 165 = some (.getfield 42) := by decide +kernel
theorem i_89_168 : t_ins 89 168 = some (.iload_n 2) := by decide +kernel
theorem i_89_169 : t_ins 89 169 = some (.bipush 100) := by decide +kernel
theorem i_89_171 : t_ins 89 171 = some (.imul) := by decide +kernel
theorem i_89_172 : t_ins 89 172 = some (.aload_n 0) := by decide +kernel
theorem i_89_173 : t_ins 89 173 = some (.getfield 46) := by decide +kernel
theorem i_89_176 : t_ins 89 176 = some (.iload_n 2) := by decide +kernel
theorem i_89_177 : t_ins 89 177 = some (.iaload) := by decide +kernel
theorem i_89_178 : t_ins 89 178 = some (.aload_n 0) := by decide +kernel
theorem i_89_179 : t_ins 89 179 = some (.getfield 52) := by decide +kernel
theorem i_89_182 : t_ins 89 182 = some (.iload 5) := by decide +kernel
theorem i_89_184 : t_ins 89 184 = some (.isub) := by decide +kernel
theorem i_89_185 : t_ins 89 185 = some (.aload_n 0) := by decide +kernel
theorem i_89_186 : t_ins 89 186 = some (.getfield 49) := by decide +kernel
theorem i_89_189 : t_ins 89 189 = some (.iload_n 2) := by decide +kernel
theorem i_89_190 : t_ins 89 190 = some (.iaload) := by decide +kernel
theorem i_89_191 : t_ins 89 191 = some (.invokevirtual 122) := by decide +kernel
theorem i_89_194 : t_ins 89 194 = some (.iconst 1) := by decide +kernel
theorem i_89_195 : t_ins 89 195 = some (.ireturn) := by decide +kernel
theorem q_89_0 : XX d 89 0 [some (.ref a), v1, v2, v3, v4, v5] st A Q ↔ XX d 89 1 [some (.ref a), v1, v2, v3, v4, v5] (.ref a :: st) A Q := c_lcl i_89_0 rfl rfl
theorem q_89_1 : XX d 89 1 [v0, some (.int x), v2, v3, v4, v5] st A Q ↔ XX d 89 2 [v0, some (.int x), v2, v3, v4, v5] (.int x :: st) A Q := c_lcl i_89_1 rfl rfl
theorem q_89_2 : XX d 89 2 [v0, v1, some (.int x), v3, v4, v5] st A Q ↔ XX d 89 3 [v0, v1, some (.int x), v3, v4, v5] (.int x :: st) A Q := c_lcl i_89_2 rfl rfl
theorem q_89_3 : XX (d + 1) 89 3 [v0, v1, v2, v3, v4, v5] [.int x2, .int x1, .ref a0] (mk S I L R G) Q ↔ S a0 = some (.inr 9) ∧ XC d 90 [.ref a0, .int x1, .int x2] (mk S I L R G) (XK (d + 1) 89 3 [v0, v1, v2, v3, v4, v5] [] Q) := c_callV i_89_3 rfl rfl rfl rfl (Nat.le_of_ble_eq_true rfl) (Nat.le_of_ble_eq_true rfl) rfl
theorem q_89_6 : XX d 89 6 [v0, v1, some (.int z), v3, v4, v5] (.int x :: st) A Q ↔ XX d 89 7 [v0, v1, some (.int z), some (.int x), v4, v5] st A Q := c_lcl i_89_6 rfl rfl
theorem q_89_7 : XX d 89 7 [v0, v1, v2, some (.int x), v4, v5] st A Q ↔ XX d 89 8 [v0, v1, v2, some (.int x), v4, v5] (.int x :: st) A Q := c_lcl i_89_7 rfl rfl
theorem q_89_8 : XX d 89 8 [v0, v1, v2, v3, v4, v5] st A Q ↔ XX d 89 9 [v0, v1, v2, v3, v4, v5] (.int (w (-1)) :: st) A Q := c_stk i_89_8 rfl
theorem q_89_9 : XX d 89 9 [v0, v1, v2, v3, v4, v5] (.int y :: .int x :: st) A Q ↔ if x = y then XX d 89 12 [v0, v1, v2, v3, v4, v5] st A Q else XX d 89 22 [v0, v1, v2, v3, v4, v5] st A Q := b_ne i_89_9 rfl rfl rfl
theorem q_89_12 : XX d 89 12 [v0, v1, some (.int x), v3, v4, v5] st A Q ↔ XX d 89 13 [v0, v1, some (.int x), v3, v4, v5] (.int x :: st) A Q := c_lcl i_89_12 rfl rfl
theorem q_89_13 : XX d 89 13 [v0, v1, v2, v3, v4, v5] (.int x :: st) A Q ↔ if x < w 0 then XX d 89 22 [v0, v1, v2, v3, v4, v5] st A Q else XX d 89 16 [v0, v1, v2, v3, v4, v5] st A Q := z_lt i_89_13 rfl rfl rfl
theorem q_89_16 : XX d 89 16 [v0, v1, some (.int x), v3, v4, v5] st A Q ↔ XX d 89 17 [v0, v1, some (.int x), v3, v4, v5] (.int x :: st) A Q := c_lcl i_89_16 rfl rfl
theorem q_89_17 : XX d 89 17 [v0, v1, v2, v3, v4, v5] st A Q ↔ XX d 89 19 [v0, v1, v2, v3, v4, v5] (.int (w 30) :: st) A Q := c_stk i_89_17 rfl
theorem q_89_19 : XX d 89 19 [v0, v1, v2, v3, v4, v5] (.int y :: .int x :: st) A Q ↔ if x < y then XX d 89 35 [v0, v1, v2, v3, v4, v5] st A Q else XX d 89 22 [v0, v1, v2, v3, v4, v5] st A Q := b_lt i_89_19 rfl rfl rfl
theorem q_89_22 : XX d 89 22 [some (.ref a), v1, v2, v3, v4, v5] st A Q ↔ XX d 89 23 [some (.ref a), v1, v2, v3, v4, v5] (.ref a :: st) A Q := c_lcl i_89_22 rfl rfl
theorem q_89_23 : XX d 89 23 [v0, v1, v2, v3, v4, v5] (.ref a :: st) (mk S I L R G) Q ↔ S a = some (.inr 9) ∧ XX d 89 26 [v0, v1, v2, v3, v4, v5] (.ref (a + 7) :: st) (mk S I L R G) Q := r_gf i_89_23 rfl (by decide) rfl
theorem q_89_26 : XX d 89 26 [v0, v1, some (.int x), v3, v4, v5] st A Q ↔ XX d 89 27 [v0, v1, some (.int x), v3, v4, v5] (.int x :: st) A Q := c_lcl i_89_26 rfl rfl
theorem q_89_27 : XX d 89 27 [v0, some (.int x), v2, v3, v4, v5] st A Q ↔ XX d 89 28 [v0, some (.int x), v2, v3, v4, v5] (.int x :: st) A Q := c_lcl i_89_27 rfl rfl
theorem q_89_28 : XX d 89 28 [v0, v1, v2, some (.int x), v4, v5] st A Q ↔ XX d 89 29 [v0, v1, v2, some (.int x), v4, v5] (.int x :: st) A Q := c_lcl i_89_28 rfl rfl
theorem q_89_29 : XX d 89 29 [v0, v1, v2, v3, v4, v5] st A Q ↔ XX d 89 30 [v0, v1, v2, v3, v4, v5] (.int (w (-1)) :: st) A Q := c_stk i_89_29 rfl
theorem q_89_30 : XX d 89 30 [v0, v1, v2, v3, v4, v5] st A Q ↔ XX d 89 31 [v0, v1, v2, v3, v4, v5] (.int (w (-1)) :: st) A Q := c_stk i_89_30 rfl
theorem q_89_31 : XX (d + 1) 89 31 [v0, v1, v2, v3, v4, v5] [.int x5, .int x4, .int x3, .int x2, .int x1, .ref a0] (mk S I L R G) Q ↔ S a0 = some (.inr 1) ∧ XC d 9 [.ref a0, .int x1, .int x2, .int x3, .int x4, .int x5] (mk S I L R G) (XK (d + 1) 89 31 [v0, v1, v2, v3, v4, v5] [] Q) := c_callV i_89_31 rfl rfl rfl rfl (Nat.le_of_ble_eq_true rfl) (Nat.le_of_ble_eq_true rfl) rfl
theorem q_89_34 : XX d 89 34 [v0, v1, v2, v3, v4, v5] [.int x] A Q ↔ (x = w 0 ∨ x = w 1) ∧ Q (.inl (some (.int x))) A := e_retZ i_89_34 rfl
theorem q_89_35 : XX d 89 35 [v0, v1, some (.int x), v3, v4, v5] st A Q ↔ XX d 89 36 [v0, v1, some (.int x), v3, v4, v5] (.int x :: st) A Q := c_lcl i_89_35 rfl rfl
theorem q_89_36 : XX d 89 36 [v0, v1, v2, v3, v4, v5] (.int x :: st) A Q ↔ if w 0 < x then XX d 89 39 [v0, v1, v2, v3, v4, v5] st A Q else XX d 89 49 [v0, v1, v2, v3, v4, v5] st A Q := z_le i_89_36 rfl rfl rfl
theorem q_89_39 : XX d 89 39 [some (.ref a), v1, v2, v3, v4, v5] st A Q ↔ XX d 89 40 [some (.ref a), v1, v2, v3, v4, v5] (.ref a :: st) A Q := c_lcl i_89_39 rfl rfl
theorem q_89_40 : XX d 89 40 [v0, v1, v2, v3, v4, v5] (.ref a1 :: st) A Q ↔ XX d 89 41 [v0, v1, v2, v3, v4, v5] (.ref a1 :: .ref a1 :: st) A Q := c_stk i_89_40 rfl
theorem q_89_41 : XX d 89 41 [v0, v1, v2, v3, v4, v5] (.ref a :: st) (mk S I L R G) Q ↔ S a = some (.inr 9) ∧ XX d 89 44 [v0, v1, v2, v3, v4, v5] (.int (I a 9) :: st) (mk S I L R G) Q := r_gf i_89_41 rfl (by decide) rfl
theorem q_89_44 : XX d 89 44 [v0, v1, v2, v3, v4, v5] st A Q ↔ XX d 89 45 [v0, v1, v2, v3, v4, v5] (.int (w 1) :: st) A Q := c_stk i_89_44 rfl
theorem q_89_45 : XX d 89 45 [v0, v1, v2, v3, v4, v5] (.int y :: .int x :: st) A Q ↔ XX d 89 46 [v0, v1, v2, v3, v4, v5] (.int (x + y) :: st) A Q := c_stk i_89_45 rfl
theorem q_89_46 : XX d 89 46 [v0, v1, v2, v3, v4, v5] (.int x :: .ref a :: st) (mk S I L R G) Q ↔ S a = some (.inr 9) ∧ XX d 89 49 [v0, v1, v2, v3, v4, v5] st (mk S (wr I a (up (I a) 9 x)) L R G) Q := r_pf i_89_46 rfl (by decide) rfl rfl rfl
theorem q_89_49 : XX d 89 49 [some (.ref a), v1, v2, v3, v4, v5] st A Q ↔ XX d 89 50 [some (.ref a), v1, v2, v3, v4, v5] (.ref a :: st) A Q := c_lcl i_89_49 rfl rfl
theorem q_89_50 : XX d 89 50 [v0, some (.int x), v2, v3, v4, v5] st A Q ↔ XX d 89 51 [v0, some (.int x), v2, v3, v4, v5] (.int x :: st) A Q := c_lcl i_89_50 rfl rfl
theorem q_89_51 : XX d 89 51 [v0, v1, some (.int x), v3, v4, v5] st A Q ↔ XX d 89 52 [v0, v1, some (.int x), v3, v4, v5] (.int x :: st) A Q := c_lcl i_89_51 rfl rfl
theorem q_89_52 : XX (d + 1) 89 52 [v0, v1, v2, v3, v4, v5] [.int x2, .int x1, .ref a0] (mk S I L R G) Q ↔ S a0 = some (.inr 9) ∧ XC d 91 [.ref a0, .int x1, .int x2] (mk S I L R G) (XK (d + 1) 89 52 [v0, v1, v2, v3, v4, v5] [] Q) := c_callV i_89_52 rfl rfl rfl rfl (Nat.le_of_ble_eq_true rfl) (Nat.le_of_ble_eq_true rfl) rfl
theorem q_89_55 : XX d 89 55 [v0, v1, v2, v3, v4, v5] (.int x :: st) A Q ↔ if x = w 0 then XX d 89 60 [v0, v1, v2, v3, v4, v5] st A Q else XX d 89 58 [v0, v1, v2, v3, v4, v5] st A Q := z_eq i_89_55 rfl rfl rfl
theorem q_89_58 : XX d 89 58 [v0, v1, v2, v3, v4, v5] st A Q ↔ XX d 89 59 [v0, v1, v2, v3, v4, v5] (.int (w 1) :: st) A Q := c_stk i_89_58 rfl
theorem q_89_59 : XX d 89 59 [v0, v1, v2, v3, v4, v5] [.int x] A Q ↔ (x = w 0 ∨ x = w 1) ∧ Q (.inl (some (.int x))) A := e_retZ i_89_59 rfl
theorem q_89_60 : XX d 89 60 [some (.ref a), v1, v2, v3, v4, v5] st A Q ↔ XX d 89 61 [some (.ref a), v1, v2, v3, v4, v5] (.ref a :: st) A Q := c_lcl i_89_60 rfl rfl
theorem q_89_61 : XX d 89 61 [v0, v1, v2, v3, v4, v5] (.ref a :: st) (mk S I L R G) Q ↔ S a = some (.inr 9) ∧ XX d 89 64 [v0, v1, v2, v3, v4, v5] (.int (I a 10) :: st) (mk S I L R G) Q := r_gf i_89_61 rfl (by decide) rfl
theorem q_89_64 : XX d 89 64 [v0, v1, v2, v3, v4, v5] (.int x :: st) A Q ↔ if x = w 0 then XX d 89 67 [v0, v1, v2, v3, v4, v5] st A Q else XX d 89 80 [v0, v1, v2, v3, v4, v5] st A Q := z_ne i_89_64 rfl rfl rfl
theorem q_89_67 : XX d 89 67 [some (.ref a), v1, v2, v3, v4, v5] st A Q ↔ XX d 89 68 [some (.ref a), v1, v2, v3, v4, v5] (.ref a :: st) A Q := c_lcl i_89_67 rfl rfl
theorem q_89_68 : XX d 89 68 [v0, v1, v2, v3, v4, v5] (.ref a :: st) (mk S I L R G) Q ↔ S a = some (.inr 9) ∧ XX d 89 71 [v0, v1, v2, v3, v4, v5] (.ref (a + 1) :: st) (mk S I L R G) Q := r_gf i_89_68 rfl (by decide) rfl
theorem q_89_71 : XX d 89 71 [v0, some (.int x), v2, v3, v4, v5] st A Q ↔ XX d 89 72 [v0, some (.int x), v2, v3, v4, v5] (.int x :: st) A Q := c_lcl i_89_71 rfl rfl
theorem q_89_72 : XX (d + 1) 89 72 [v0, v1, v2, v3, v4, v5] [.int x1, .ref a0] (mk S I L R G) Q ↔ S a0 = some (.inr 4) ∧ XC d 29 [.ref a0, .int x1] (mk S I L R G) (XK (d + 1) 89 72 [v0, v1, v2, v3, v4, v5] [] Q) := c_callV i_89_72 rfl rfl rfl rfl (Nat.le_of_ble_eq_true rfl) (Nat.le_of_ble_eq_true rfl) rfl
theorem q_89_75 : XX d 89 75 [v0, v1, v2, v3, v4, v5] (.int x :: st) A Q ↔ if x = w 0 then XX d 89 80 [v0, v1, v2, v3, v4, v5] st A Q else XX d 89 78 [v0, v1, v2, v3, v4, v5] st A Q := z_eq i_89_75 rfl rfl rfl
theorem q_89_78 : XX d 89 78 [v0, v1, v2, v3, v4, v5] st A Q ↔ XX d 89 79 [v0, v1, v2, v3, v4, v5] (.int (w 0) :: st) A Q := c_stk i_89_78 rfl
theorem q_89_79 : XX d 89 79 [v0, v1, v2, v3, v4, v5] [.int x] A Q ↔ (x = w 0 ∨ x = w 1) ∧ Q (.inl (some (.int x))) A := e_retZ i_89_79 rfl
theorem q_89_80 : XX d 89 80 [some (.ref a), v1, v2, v3, v4, v5] st A Q ↔ XX d 89 81 [some (.ref a), v1, v2, v3, v4, v5] (.ref a :: st) A Q := c_lcl i_89_80 rfl rfl
theorem q_89_81 : XX d 89 81 [v0, some (.int x), v2, v3, v4, v5] st A Q ↔ XX d 89 82 [v0, some (.int x), v2, v3, v4, v5] (.int x :: st) A Q := c_lcl i_89_81 rfl rfl
theorem q_89_82 : XX (d + 1) 89 82 [v0, v1, v2, v3, v4, v5] [.int x1, .ref a0] (mk S I L R G) Q ↔ S a0 = some (.inr 9) ∧ XC d 82 [.ref a0, .int x1] (mk S I L R G) (XK (d + 1) 89 82 [v0, v1, v2, v3, v4, v5] [] Q) := c_callV i_89_82 rfl rfl rfl rfl (Nat.le_of_ble_eq_true rfl) (Nat.le_of_ble_eq_true rfl) rfl
theorem q_89_85 : XX d 89 85 [v0, v1, v2, some (.int z), v4, v5] (.int x :: st) A Q ↔ XX d 89 87 [v0, v1, v2, some (.int z), some (.int x), v5] st A Q := c_lcl i_89_85 rfl rfl
theorem q_89_87 : XX d 89 87 [v0, v1, v2, v3, some (.int x), v5] st A Q ↔ XX d 89 89 [v0, v1, v2, v3, some (.int x), v5] (.int x :: st) A Q := c_lcl i_89_87 rfl rfl
theorem q_89_89 : XX d 89 89 [v0, v1, v2, v3, v4, v5] st A Q ↔ XX d 89 90 [v0, v1, v2, v3, v4, v5] (.int (w (-1)) :: st) A Q := c_stk i_89_89 rfl
theorem q_89_90 : XX d 89 90 [v0, v1, v2, v3, v4, v5] (.int y :: .int x :: st) A Q ↔ if x = y then XX d 89 93 [v0, v1, v2, v3, v4, v5] st A Q else XX d 89 106 [v0, v1, v2, v3, v4, v5] st A Q := b_ne i_89_90 rfl rfl rfl
theorem q_89_93 : XX d 89 93 [some (.ref a), v1, v2, v3, v4, v5] st A Q ↔ XX d 89 94 [some (.ref a), v1, v2, v3, v4, v5] (.ref a :: st) A Q := c_lcl i_89_93 rfl rfl
theorem q_89_94 : XX d 89 94 [v0, v1, v2, v3, v4, v5] (.ref a :: st) (mk S I L R G) Q ↔ S a = some (.inr 9) ∧ XX d 89 97 [v0, v1, v2, v3, v4, v5] (.ref (a + 7) :: st) (mk S I L R G) Q := r_gf i_89_94 rfl (by decide) rfl
theorem q_89_97 : XX d 89 97 [v0, v1, some (.int x), v3, v4, v5] st A Q ↔ XX d 89 98 [v0, v1, some (.int x), v3, v4, v5] (.int x :: st) A Q := c_lcl i_89_97 rfl rfl
theorem q_89_98 : XX d 89 98 [v0, some (.int x), v2, v3, v4, v5] st A Q ↔ XX d 89 99 [v0, some (.int x), v2, v3, v4, v5] (.int x :: st) A Q := c_lcl i_89_98 rfl rfl
theorem q_89_99 : XX d 89 99 [v0, v1, v2, v3, v4, v5] st A Q ↔ XX d 89 100 [v0, v1, v2, v3, v4, v5] (.int (w 1) :: st) A Q := c_stk i_89_99 rfl
theorem q_89_100 : XX d 89 100 [v0, v1, v2, v3, v4, v5] st A Q ↔ XX d 89 101 [v0, v1, v2, v3, v4, v5] (.int (w (-1)) :: st) A Q := c_stk i_89_100 rfl
theorem q_89_101 : XX d 89 101 [v0, v1, v2, v3, v4, v5] st A Q ↔ XX d 89 102 [v0, v1, v2, v3, v4, v5] (.int (w (-1)) :: st) A Q := c_stk i_89_101 rfl
theorem q_89_102 : XX (d + 1) 89 102 [v0, v1, v2, v3, v4, v5] [.int x5, .int x4, .int x3, .int x2, .int x1, .ref a0] (mk S I L R G) Q ↔ S a0 = some (.inr 1) ∧ XC d 9 [.ref a0, .int x1, .int x2, .int x3, .int x4, .int x5] (mk S I L R G) (XK (d + 1) 89 102 [v0, v1, v2, v3, v4, v5] [] Q) := c_callV i_89_102 rfl rfl rfl rfl (Nat.le_of_ble_eq_true rfl) (Nat.le_of_ble_eq_true rfl) rfl
theorem q_89_105 : XX d 89 105 [v0, v1, v2, v3, v4, v5] [.int x] A Q ↔ (x = w 0 ∨ x = w 1) ∧ Q (.inl (some (.int x))) A := e_retZ i_89_105 rfl
theorem q_89_106 : XX d 89 106 [some (.ref a), v1, v2, v3, v4, v5] st A Q ↔ XX d 89 107 [some (.ref a), v1, v2, v3, v4, v5] (.ref a :: st) A Q := c_lcl i_89_106 rfl rfl
theorem q_89_107 : XX d 89 107 [v0, v1, v2, v3, v4, v5] (.ref a1 :: st) A Q ↔ XX d 89 108 [v0, v1, v2, v3, v4, v5] (.ref a1 :: .ref a1 :: st) A Q := c_stk i_89_107 rfl
theorem q_89_108 : XX d 89 108 [v0, v1, v2, v3, v4, v5] (.ref a :: st) (mk S I L R G) Q ↔ S a = some (.inr 9) ∧ XX d 89 111 [v0, v1, v2, v3, v4, v5] (.int (I a 4) :: st) (mk S I L R G) Q := r_gf i_89_108 rfl (by decide) rfl
theorem q_89_111 : XX d 89 111 [v0, v1, v2, v3, v4, v5] st A Q ↔ XX d 89 112 [v0, v1, v2, v3, v4, v5] (.int (w 1) :: st) A Q := c_stk i_89_111 rfl
theorem q_89_112 : XX d 89 112 [v0, v1, v2, v3, some (.int x), v5] st A Q ↔ XX d 89 114 [v0, v1, v2, v3, some (.int x), v5] (.int x :: st) A Q := c_lcl i_89_112 rfl rfl
theorem q_89_114 : XX d 89 114 [v0, v1, v2, v3, v4, v5] (.int y :: .int x :: st) A Q ↔ XX d 89 115 [v0, v1, v2, v3, v4, v5] (.int (x <<< (y &&& 31)) :: st) A Q := c_stk i_89_114 rfl
theorem q_89_115 : XX d 89 115 [v0, v1, v2, v3, v4, v5] (.int y :: .int x :: st) A Q ↔ XX d 89 116 [v0, v1, v2, v3, v4, v5] (.int (x ||| y) :: st) A Q := c_stk i_89_115 rfl
theorem q_89_116 : XX d 89 116 [v0, v1, v2, v3, v4, v5] (.int x :: .ref a :: st) (mk S I L R G) Q ↔ S a = some (.inr 9) ∧ XX d 89 119 [v0, v1, v2, v3, v4, v5] st (mk S (wr I a (up (I a) 4 x)) L R G) Q := r_pf i_89_116 rfl (by decide) rfl rfl rfl
theorem q_89_119 : XX d 89 119 [some (.ref a), v1, v2, v3, v4, v5] st A Q ↔ XX d 89 120 [some (.ref a), v1, v2, v3, v4, v5] (.ref a :: st) A Q := c_lcl i_89_119 rfl rfl
theorem q_89_120 : XX d 89 120 [v0, v1, v2, v3, v4, v5] (.ref a :: st) (mk S I L R G) Q ↔ S a = some (.inr 9) ∧ XX d 89 123 [v0, v1, v2, v3, v4, v5] (.ref (a + 13) :: st) (mk S I L R G) Q := r_gf i_89_120 rfl (by decide) rfl
theorem q_89_123 : XX d 89 123 [v0, v1, some (.int x), v3, v4, v5] st A Q ↔ XX d 89 124 [v0, v1, some (.int x), v3, v4, v5] (.int x :: st) A Q := c_lcl i_89_123 rfl rfl
theorem q_89_124 : XX d 89 124 [v0, some (.int x), v2, v3, v4, v5] st A Q ↔ XX d 89 125 [v0, some (.int x), v2, v3, v4, v5] (.int x :: st) A Q := c_lcl i_89_124 rfl rfl
theorem q_89_125 : XX d 89 125 [v0, v1, v2, v3, v4, v5] (.int y :: .int x :: .ref a :: st) (mk S I L R G) Q ↔ inA (S a) ok_0 x ∧ XX d 89 126 [v0, v1, v2, v3, v4, v5] st (mk S (wr I a (up (I a) (ix x) y)) L R G) Q := r_ias i_89_125
theorem q_89_126 : XX d 89 126 [some (.ref a), v1, v2, v3, v4, v5] st A Q ↔ XX d 89 127 [some (.ref a), v1, v2, v3, v4, v5] (.ref a :: st) A Q := c_lcl i_89_126 rfl rfl
theorem q_89_127 : XX d 89 127 [v0, v1, v2, v3, v4, v5] (.ref a :: st) (mk S I L R G) Q ↔ S a = some (.inr 9) ∧ XX d 89 130 [v0, v1, v2, v3, v4, v5] (.ref (a + 15) :: st) (mk S I L R G) Q := r_gf i_89_127 rfl (by decide) rfl
theorem q_89_130 : XX d 89 130 [v0, v1, some (.int x), v3, v4, v5] st A Q ↔ XX d 89 131 [v0, v1, some (.int x), v3, v4, v5] (.int x :: st) A Q := c_lcl i_89_130 rfl rfl
theorem q_89_131 : XX d 89 131 [v0, v1, v2, v3, v4, v5] st A Q ↔ XX d 89 132 [v0, v1, v2, v3, v4, v5] (.int (w 0) :: st) A Q := c_stk i_89_131 rfl
theorem q_89_132 : XX d 89 132 [v0, v1, v2, v3, v4, v5] (.int y :: .int x :: .ref a :: st) (mk S I L R G) Q ↔ inA (S a) ok_0 x ∧ XX d 89 133 [v0, v1, v2, v3, v4, v5] st (mk S (wr I a (up (I a) (ix x) y)) L R G) Q := r_ias i_89_132
theorem q_89_133 : XX d 89 133 [some (.ref a), v1, v2, v3, v4, v5] st A Q ↔ XX d 89 134 [some (.ref a), v1, v2, v3, v4, v5] (.ref a :: st) A Q := c_lcl i_89_133 rfl rfl
theorem q_89_134 : XX d 89 134 [v0, v1, v2, v3, v4, v5] (.ref a :: st) (mk S I L R G) Q ↔ S a = some (.inr 9) ∧ XX d 89 137 [v0, v1, v2, v3, v4, v5] (.ref (a + 16) :: st) (mk S I L R G) Q := r_gf i_89_134 rfl (by decide) rfl
theorem q_89_137 : XX d 89 137 [v0, v1, some (.int x), v3, v4, v5] st A Q ↔ XX d 89 138 [v0, v1, some (.int x), v3, v4, v5] (.int x :: st) A Q := c_lcl i_89_137 rfl rfl
theorem q_89_138 : XX d 89 138 [v0, v1, v2, v3, v4, v5] st A Q ↔ XX d 89 139 [v0, v1, v2, v3, v4, v5] (.int (w 1) :: st) A Q := c_stk i_89_138 rfl
theorem q_89_139 : XX d 89 139 [v0, v1, v2, v3, v4, v5] (.int y :: .int x :: .ref a :: st) (mk S I L R G) Q ↔ inA (S a) ok_0 x ∧ XX d 89 140 [v0, v1, v2, v3, v4, v5] st (mk S (wr I a (up (I a) (ix x) y)) L R G) Q := r_ias i_89_139
theorem q_89_140 : XX d 89 140 [some (.ref a), v1, v2, v3, v4, v5] st A Q ↔ XX d 89 141 [some (.ref a), v1, v2, v3, v4, v5] (.ref a :: st) A Q := c_lcl i_89_140 rfl rfl
theorem q_89_141 : XX d 89 141 [v0, v1, v2, v3, v4, v5] (.ref a :: st) (mk S I L R G) Q ↔ S a = some (.inr 9) ∧ XX d 89 144 [v0, v1, v2, v3, v4, v5] (.int (I a 9) :: st) (mk S I L R G) Q := r_gf i_89_141 rfl (by decide) rfl
theorem q_89_144 : XX d 89 144 [v0, v1, v2, v3, some (.int z), v5] (.int x :: st) A Q ↔ XX d 89 146 [v0, v1, v2, v3, some (.int z), some (.int x)] st A Q := c_lcl i_89_144 rfl rfl
theorem q_89_146 : XX d 89 146 [some (.ref a), v1, v2, v3, v4, v5] st A Q ↔ XX d 89 147 [some (.ref a), v1, v2, v3, v4, v5] (.ref a :: st) A Q := c_lcl i_89_146 rfl rfl
theorem q_89_147 : XX d 89 147 [v0, some (.int x), v2, v3, v4, v5] st A Q ↔ XX d 89 148 [v0, some (.int x), v2, v3, v4, v5] (.int x :: st) A Q := c_lcl i_89_147 rfl rfl
theorem q_89_148 : XX d 89 148 [v0, v1, v2, v3, some (.int x), v5] st A Q ↔ XX d 89 150 [v0, v1, v2, v3, some (.int x), v5] (.int x :: st) A Q := c_lcl i_89_148 rfl rfl
theorem q_89_150 : XX d 89 150 [v0, v1, some (.int x), v3, v4, v5] st A Q ↔ XX d 89 151 [v0, v1, some (.int x), v3, v4, v5] (.int x :: st) A Q := c_lcl i_89_150 rfl rfl
theorem q_89_151 : XX (d + 1) 89 151 [v0, v1, v2, v3, v4, v5] [.int x3, .int x2, .int x1, .ref a0] (mk S I L R G) Q ↔ S a0 = some (.inr 9) ∧ XC d 92 [.ref a0, .int x1, .int x2, .int x3] (mk S I L R G) (XK (d + 1) 89 151 [v0, v1, v2, v3, v4, v5] [] Q) := c_callV i_89_151 rfl rfl rfl rfl (Nat.le_of_ble_eq_true rfl) (Nat.le_of_ble_eq_true rfl) rfl
theorem q_89_154 : XX d 89 154 [v0, v1, v2, v3, v4, v5] (.int x :: st) A Q ↔ if x = w 0 then XX d 89 157 [v0, v1, v2, v3, v4, v5] st A Q else XX d 89 159 [v0, v1, v2, v3, v4, v5] st A Q := z_ne i_89_154 rfl rfl rfl
theorem q_89_157 : XX d 89 157 [v0, v1, v2, v3, v4, v5] st A Q ↔ XX d 89 158 [v0, v1, v2, v3, v4, v5] (.int (w 0) :: st) A Q := c_stk i_89_157 rfl
theorem q_89_158 : XX d 89 158 [v0, v1, v2, v3, v4, v5] [.int x] A Q ↔ (x = w 0 ∨ x = w 1) ∧ Q (.inl (some (.int x))) A := e_retZ i_89_158 rfl
theorem q_89_159 : XX d 89 159 [some (.ref a), v1, v2, v3, v4, v5] st A Q ↔ XX d 89 160 [some (.ref a), v1, v2, v3, v4, v5] (.ref a :: st) A Q := c_lcl i_89_159 rfl rfl
theorem q_89_160 : XX d 89 160 [v0, v1, v2, v3, v4, v5] (.ref a :: st) (mk S I L R G) Q ↔ S a = some (.inr 9) ∧ XX d 89 163 [v0, v1, v2, v3, v4, v5] (.ref (a + 1) :: st) (mk S I L R G) Q := r_gf i_89_160 rfl (by decide) rfl
theorem q_89_163 : XX d 89 163 [v0, some (.int x), v2, v3, v4, v5] st A Q ↔ XX d 89 164 [v0, some (.int x), v2, v3, v4, v5] (.int x :: st) A Q := c_lcl i_89_163 rfl rfl
theorem q_89_164 : XX d 89 164 [some (.ref a), v1, v2, v3, v4, v5] st A Q ↔ XX d 89 165 [some (.ref a), v1, v2, v3, v4, v5] (.ref a :: st) A Q := c_lcl i_89_164 rfl rfl
theorem q_89_165 : XX d 89 165 [v0, v1, v2, v3, v4, v5] (.ref a :: st) (mk S I L R G) Q ↔ S a = some (.inr 9) ∧ XX d 89 168 [v0, v1, v2, v3, v4, v5] (.ref (a + 14) :: st) (mk S I L R G) Q := r_gf i_89_165 rfl (by decide) rfl
theorem q_89_168 : XX d 89 168 [v0, v1, some (.int x), v3, v4, v5] st A Q ↔ XX d 89 169 [v0, v1, some (.int x), v3, v4, v5] (.int x :: st) A Q := c_lcl i_89_168 rfl rfl
theorem q_89_169 : XX d 89 169 [v0, v1, v2, v3, v4, v5] st A Q ↔ XX d 89 171 [v0, v1, v2, v3, v4, v5] (.int (w 100) :: st) A Q := c_stk i_89_169 rfl
theorem q_89_171 : XX d 89 171 [v0, v1, v2, v3, v4, v5] (.int y :: .int x :: st) A Q ↔ XX d 89 172 [v0, v1, v2, v3, v4, v5] (.int (x * y) :: st) A Q := c_stk i_89_171 rfl
theorem q_89_172 : XX d 89 172 [some (.ref a), v1, v2, v3, v4, v5] st A Q ↔ XX d 89 173 [some (.ref a), v1, v2, v3, v4, v5] (.ref a :: st) A Q := c_lcl i_89_172 rfl rfl
theorem q_89_173 : XX d 89 173 [v0, v1, v2, v3, v4, v5] (.ref a :: st) (mk S I L R G) Q ↔ S a = some (.inr 9) ∧ XX d 89 176 [v0, v1, v2, v3, v4, v5] (.ref (a + 15) :: st) (mk S I L R G) Q := r_gf i_89_173 rfl (by decide) rfl
theorem q_89_176 : XX d 89 176 [v0, v1, some (.int x), v3, v4, v5] st A Q ↔ XX d 89 177 [v0, v1, some (.int x), v3, v4, v5] (.int x :: st) A Q := c_lcl i_89_176 rfl rfl
theorem q_89_177 : XX d 89 177 [v0, v1, v2, v3, v4, v5] (.int x :: .ref a :: st) (mk S I L R G) Q ↔ inA (S a) ok_i x ∧ XX d 89 178 [v0, v1, v2, v3, v4, v5] (.int (I a (ix x)) :: st) (mk S I L R G) Q := r_ia i_89_177
theorem q_89_178 : XX d 89 178 [some (.ref a), v1, v2, v3, v4, v5] st A Q ↔ XX d 89 179 [some (.ref a), v1, v2, v3, v4, v5] (.ref a :: st) A Q := c_lcl i_89_178 rfl rfl
theorem q_89_179 : XX d 89 179 [v0, v1, v2, v3, v4, v5] (.ref a :: st) (mk S I L R G) Q ↔ S a = some (.inr 9) ∧ XX d 89 182 [v0, v1, v2, v3, v4, v5] (.int (I a 9) :: st) (mk S I L R G) Q := r_gf i_89_179 rfl (by decide) rfl
theorem q_89_182 : XX d 89 182 [v0, v1, v2, v3, v4, some (.int x)] st A Q ↔ XX d 89 184 [v0, v1, v2, v3, v4, some (.int x)] (.int x :: st) A Q := c_lcl i_89_182 rfl rfl
theorem q_89_184 : XX d 89 184 [v0, v1, v2, v3, v4, v5] (.int y :: .int x :: st) A Q ↔ XX d 89 185 [v0, v1, v2, v3, v4, v5] (.int (x - y) :: st) A Q := c_stk i_89_184 rfl
theorem q_89_185 : XX d 89 185 [some (.ref a), v1, v2, v3, v4, v5] st A Q ↔ XX d 89 186 [some (.ref a), v1, v2, v3, v4, v5] (.ref a :: st) A Q := c_lcl i_89_185 rfl rfl
theorem q_89_186 : XX d 89 186 [v0, v1, v2, v3, v4, v5] (.ref a :: st) (mk S I L R G) Q ↔ S a = some (.inr 9) ∧ XX d 89 189 [v0, v1, v2, v3, v4, v5] (.ref (a + 16) :: st) (mk S I L R G) Q := r_gf i_89_186 rfl (by decide) rfl
theorem q_89_189 : XX d 89 189 [v0, v1, some (.int x), v3, v4, v5] st A Q ↔ XX d 89 190 [v0, v1, some (.int x), v3, v4, v5] (.int x :: st) A Q := c_lcl i_89_189 rfl rfl
theorem q_89_190 : XX d 89 190 [v0, v1, v2, v3, v4, v5] (.int x :: .ref a :: st) (mk S I L R G) Q ↔ inA (S a) ok_i x ∧ XX d 89 191 [v0, v1, v2, v3, v4, v5] (.int (I a (ix x)) :: st) (mk S I L R G) Q := r_ia i_89_190
theorem q_89_191 : XX (d + 1) 89 191 [v0, v1, v2, v3, v4, v5] [.int x6, .int x5, .int x4, .int x3, .ref a2, .int x1, .ref a0] (mk S I L R G) Q ↔ S a0 = some (.inr 4) ∧ XC d 35 [.ref a0, .int x1, .ref a2, .int x3, .int x4, .int x5, .int x6] (mk S I L R G) (XK (d + 1) 89 191 [v0, v1, v2, v3, v4, v5] [] Q) := c_callV i_89_191 rfl rfl rfl rfl (Nat.le_of_ble_eq_true rfl) (Nat.le_of_ble_eq_true rfl) rfl
theorem q_89_194 : XX d 89 194 [v0, v1, v2, v3, v4, v5] st A Q ↔ XX d 89 195 [v0, v1, v2, v3, v4, v5] (.int (w 1) :: st) A Q := c_stk i_89_194 rfl
theorem q_89_195 : XX d 89 195 [v0, v1, v2, v3, v4, v5] [.int x] A Q ↔ (x = w 0 ∨ x = w 1) ∧ Q (.inl (some (.int x))) A := e_retZ i_89_195 rfl
theorem q_89_e : XC d 89 [.ref a0, .int x1, .int x2] A Q ↔ XX d 89 0 [some (.ref a0), some (.int x1), some (.int x2), none, none, none] [] A Q := Iff.rfl
theorem i_90_0 : t_ins 90 0 = some (.iload_n 1) := by decide +kernel
theorem i_90_1 : t_ins 90 1 = some (.ifCond .lt 9) := by decide +kernel
theorem i_90_4 : t_ins 90 4 = some (.iload_n 1) := by decide +kernel
theorem i_90_5 : t_ins 90 5 = some (.ldc 79) := by decide +kernel
theorem i_90_7 : t_ins 90 7 = some (.if_icmp .le 5) := by decide +kernel
theorem i_90_10 : t_ins 90 10 = some (.iconst 2) := by decide +kernel
theorem i_90_11 : t_ins 90 11 = some (.ireturn) := by decide +kernel
theorem i_90_12 : t_ins 90 12 = some (.iconst 0) := by decide +kernel
theorem i_90_13 : t_ins 90 13 = some (.istore_n 3) := by decide +kernel
theorem i_90_14 : t_ins 90 14 = some (.iload_n 3) := by decide +kernel
theorem i_90_15 : t_ins 90 15 = some (.iload_n 2) := by decide +kernel
theorem i_90_16 : t_ins 90 16 = some (.if_icmp .ge 27) := by decide +kernel
theorem i_90_19 : t_ins 90 19 = some (.iload_n 3) := by decide +kernel
theorem i_90_20 : t_ins 90 20 = some (.bipush 30) := by decide +kernel
theorem i_90_22 : t_ins 90 22 = some (.if_icmp .ge 21) := by decide +kernel
theorem i_90_25 : t_ins 90 25 = some (.aload_n 0) := by decide +kernel
theorem i_90_26 : t_ins 90 26 = some (.getfield 38) := by decide +kernel
theorem i_90_29 : t_ins 90 29 = some (.iload_n 3) := by decide +kernel
theorem i_90_30 : t_ins 90 30 = some (.iaload) := by decide +kernel
theorem i_90_31 : t_ins 90 31 = some (.iload_n 1) := by decide +kernel
theorem i_90_32 : t_ins 90 32 = some (.if_icmp .ne 5) := by decide +kernel
theorem i_90_35 : t_ins 90 35 = some (.iconst 3) := by decide +kernel
theorem i_90_36 : t_ins 90 36 = some (.ireturn) := by decide +kernel
theorem i_90_37 : t_ins 90 37 = some (.iinc 3 1) := by decide +kernel
theorem i_90_40 : t_ins 90 40 = some (.goto (-26)) := by decide +kernel
theorem i_90_43 : t_ins 90 43 = some (.iload_n 2) := by decide +kernel
theorem i_90_44 : t_ins 90 44 = some (.bipush 30) := by decide +kernel
theorem i_90_46 : t_ins 90 46 = some (.if_icmp .lt 5) := by decide +kernel
theorem i_90_49 : t_ins 90 49 = some (.iconst 4) := by decide +kernel
theorem i_90_50 : t_ins 90 50 = some (.ireturn) := by decide +kernel
theorem i_90_51 : t_ins 90 51 = some (.iload_n 2) := by decide +kernel
theorem i_90_52 : t_ins 90 52 = some (.ifCond .le 18) := by decide +kernel
theorem i_90_55 : t_ins 90 55 = some (.aload_n 0) := by decide +kernel
theorem i_90_56 : t_ins 90 56 = some (.getfield 52) := by decide +kernel
theorem i_90_59 : t_ins 90 59 = some (.sipush 1000) := by decide +kernel
theorem i_90_62 : t_ins 90 62 = some (.if_icmp .lt 8) := by decide +kernel
theorem i_90_65 : t_ins 90 65 = some (.bipush 6) := by decide +kernel
theorem i_90_67 : t_ins 90 67 = some (.goto 4) := by decide +kernel
theorem i_90_70 : t_ins 90 70 = some (.iconst (-1)) := by decide +kernel
theorem i_90_71 : t_ins 90 71 = some (.ireturn) := by decide +kernel
theorem q_90_0 : XX d 90 0 [v0, some (.int x), v2, v3] st A Q ↔ XX d 90 1 [v0, some (.int x), v2, v3] (.int x :: st) A Q := c_lcl i_90_0 rfl rfl
theorem q_90_1 : XX d 90 1 [v0, v1, v2, v3] (.int x :: st) A Q ↔ if x < w 0 then XX d 90 10 [v0, v1, v2, v3] st A Q else XX d 90 4 [v0, v1, v2, v3] st A Q := z_lt i_90_1 rfl rfl rfl
theorem q_90_4 : XX d 90 4 [v0, some (.int x), v2, v3] st A Q ↔ XX d 90 5 [v0, some (.int x), v2, v3] (.int x :: st) A Q := c_lcl i_90_4 rfl rfl
theorem q_90_5 : XX d 90 5 [v0, v1, v2, v3] st A Q ↔ XX d 90 7 [v0, v1, v2, v3] (.int (w 999999999) :: st) A Q := r_ldc i_90_5 rfl
theorem q_90_7 : XX d 90 7 [v0, v1, v2, v3] (.int y :: .int x :: st) A Q ↔ if y < x then XX d 90 10 [v0, v1, v2, v3] st A Q else XX d 90 12 [v0, v1, v2, v3] st A Q := b_le i_90_7 rfl rfl rfl
theorem q_90_10 : XX d 90 10 [v0, v1, v2, v3] st A Q ↔ XX d 90 11 [v0, v1, v2, v3] (.int (w 2) :: st) A Q := c_stk i_90_10 rfl
theorem q_90_11 : XX d 90 11 [v0, v1, v2, v3] [.int x] A Q ↔ Q (.inl (some (.int x))) A := e_retI i_90_11 rfl
theorem q_90_12 : XX d 90 12 [v0, v1, v2, v3] st A Q ↔ XX d 90 13 [v0, v1, v2, v3] (.int (w 0) :: st) A Q := c_stk i_90_12 rfl
theorem q_90_13 : XX d 90 13 [v0, v1, some (.int z), v3] (.int x :: st) A Q ↔ XX d 90 14 [v0, v1, some (.int z), some (.int x)] st A Q := c_lcl i_90_13 rfl rfl
theorem q_90_14 : XX d 90 14 [v0, v1, v2, some (.int x)] st A Q ↔ XX d 90 15 [v0, v1, v2, some (.int x)] (.int x :: st) A Q := c_lcl i_90_14 rfl rfl
theorem q_90_15 : XX d 90 15 [v0, v1, some (.int x), v3] st A Q ↔ XX d 90 16 [v0, v1, some (.int x), v3] (.int x :: st) A Q := c_lcl i_90_15 rfl rfl
theorem q_90_16 : XX d 90 16 [v0, v1, v2, v3] (.int y :: .int x :: st) A Q ↔ if x < y then XX d 90 19 [v0, v1, v2, v3] st A Q else XX d 90 43 [v0, v1, v2, v3] st A Q := b_ge i_90_16 rfl rfl rfl
theorem q_90_19 : XX d 90 19 [v0, v1, v2, some (.int x)] st A Q ↔ XX d 90 20 [v0, v1, v2, some (.int x)] (.int x :: st) A Q := c_lcl i_90_19 rfl rfl
theorem q_90_20 : XX d 90 20 [v0, v1, v2, v3] st A Q ↔ XX d 90 22 [v0, v1, v2, v3] (.int (w 30) :: st) A Q := c_stk i_90_20 rfl
theorem q_90_22 : XX d 90 22 [v0, v1, v2, v3] (.int y :: .int x :: st) A Q ↔ if x < y then XX d 90 25 [v0, v1, v2, v3] st A Q else XX d 90 43 [v0, v1, v2, v3] st A Q := b_ge i_90_22 rfl rfl rfl
theorem q_90_25 : XX d 90 25 [some (.ref a), v1, v2, v3] st A Q ↔ XX d 90 26 [some (.ref a), v1, v2, v3] (.ref a :: st) A Q := c_lcl i_90_25 rfl rfl
theorem q_90_26 : XX d 90 26 [v0, v1, v2, v3] (.ref a :: st) (mk S I L R G) Q ↔ S a = some (.inr 9) ∧ XX d 90 29 [v0, v1, v2, v3] (.ref (a + 13) :: st) (mk S I L R G) Q := r_gf i_90_26 rfl (by decide) rfl
theorem q_90_29 : XX d 90 29 [v0, v1, v2, some (.int x)] st A Q ↔ XX d 90 30 [v0, v1, v2, some (.int x)] (.int x :: st) A Q := c_lcl i_90_29 rfl rfl
theorem q_90_30 : XX d 90 30 [v0, v1, v2, v3] (.int x :: .ref a :: st) (mk S I L R G) Q ↔ inA (S a) ok_i x ∧ XX d 90 31 [v0, v1, v2, v3] (.int (I a (ix x)) :: st) (mk S I L R G) Q := r_ia i_90_30
theorem q_90_31 : XX d 90 31 [v0, some (.int x), v2, v3] st A Q ↔ XX d 90 32 [v0, some (.int x), v2, v3] (.int x :: st) A Q := c_lcl i_90_31 rfl rfl
theorem q_90_32 : XX d 90 32 [v0, v1, v2, v3] (.int y :: .int x :: st) A Q ↔ if x = y then XX d 90 35 [v0, v1, v2, v3] st A Q else XX d 90 37 [v0, v1, v2, v3] st A Q := b_ne i_90_32 rfl rfl rfl
theorem q_90_35 : XX d 90 35 [v0, v1, v2, v3] st A Q ↔ XX d 90 36 [v0, v1, v2, v3] (.int (w 3) :: st) A Q := c_stk i_90_35 rfl
theorem q_90_36 : XX d 90 36 [v0, v1, v2, v3] [.int x] A Q ↔ Q (.inl (some (.int x))) A := e_retI i_90_36 rfl
theorem q_90_37 : XX d 90 37 [v0, v1, some (.int z), some (.int x)] st A Q ↔ XX d 90 40 [v0, v1, some (.int z), some (.int (x + w 1))] st A Q := c_lcl i_90_37 rfl rfl
theorem q_90_40 : XX d 90 40 [v0, v1, v2, v3] st A Q ↔ XX d 90 14 [v0, v1, v2, v3] st A Q := c_go i_90_40 rfl rfl
theorem q_90_43 : XX d 90 43 [v0, v1, some (.int x), v3] st A Q ↔ XX d 90 44 [v0, v1, some (.int x), v3] (.int x :: st) A Q := c_lcl i_90_43 rfl rfl
theorem q_90_44 : XX d 90 44 [v0, v1, v2, v3] st A Q ↔ XX d 90 46 [v0, v1, v2, v3] (.int (w 30) :: st) A Q := c_stk i_90_44 rfl
theorem q_90_46 : XX d 90 46 [v0, v1, v2, v3] (.int y :: .int x :: st) A Q ↔ if x < y then XX d 90 51 [v0, v1, v2, v3] st A Q else XX d 90 49 [v0, v1, v2, v3] st A Q := b_lt i_90_46 rfl rfl rfl
theorem q_90_49 : XX d 90 49 [v0, v1, v2, v3] st A Q ↔ XX d 90 50 [v0, v1, v2, v3] (.int (w 4) :: st) A Q := c_stk i_90_49 rfl
theorem q_90_50 : XX d 90 50 [v0, v1, v2, v3] [.int x] A Q ↔ Q (.inl (some (.int x))) A := e_retI i_90_50 rfl
theorem q_90_51 : XX d 90 51 [v0, v1, some (.int x), v3] st A Q ↔ XX d 90 52 [v0, v1, some (.int x), v3] (.int x :: st) A Q := c_lcl i_90_51 rfl rfl
theorem q_90_52 : XX d 90 52 [v0, v1, v2, v3] (.int x :: st) A Q ↔ if w 0 < x then XX d 90 55 [v0, v1, v2, v3] st A Q else XX d 90 70 [v0, v1, v2, v3] st A Q := z_le i_90_52 rfl rfl rfl
theorem q_90_55 : XX d 90 55 [some (.ref a), v1, v2, v3] st A Q ↔ XX d 90 56 [some (.ref a), v1, v2, v3] (.ref a :: st) A Q := c_lcl i_90_55 rfl rfl
theorem q_90_56 : XX d 90 56 [v0, v1, v2, v3] (.ref a :: st) (mk S I L R G) Q ↔ S a = some (.inr 9) ∧ XX d 90 59 [v0, v1, v2, v3] (.int (I a 9) :: st) (mk S I L R G) Q := r_gf i_90_56 rfl (by decide) rfl
theorem q_90_59 : XX d 90 59 [v0, v1, v2, v3] st A Q ↔ XX d 90 62 [v0, v1, v2, v3] (.int (w 1000) :: st) A Q := c_stk i_90_59 rfl
theorem q_90_62 : XX d 90 62 [v0, v1, v2, v3] (.int y :: .int x :: st) A Q ↔ if x < y then XX d 90 70 [v0, v1, v2, v3] st A Q else XX d 90 65 [v0, v1, v2, v3] st A Q := b_lt i_90_62 rfl rfl rfl
theorem q_90_65 : XX d 90 65 [v0, v1, v2, v3] st A Q ↔ XX d 90 67 [v0, v1, v2, v3] (.int (w 6) :: st) A Q := c_stk i_90_65 rfl
theorem q_90_67 : XX d 90 67 [v0, v1, v2, v3] st A Q ↔ XX d 90 71 [v0, v1, v2, v3] st A Q := c_go i_90_67 rfl rfl
theorem q_90_70 : XX d 90 70 [v0, v1, v2, v3] st A Q ↔ XX d 90 71 [v0, v1, v2, v3] (.int (w (-1)) :: st) A Q := c_stk i_90_70 rfl
theorem q_90_71 : XX d 90 71 [v0, v1, v2, v3] [.int x] A Q ↔ Q (.inl (some (.int x))) A := e_retI i_90_71 rfl
theorem q_90_e : XC d 90 [.ref a0, .int x1, .int x2] A Q ↔ XX d 90 0 [some (.ref a0), some (.int x1), some (.int x2), none] [] A Q := Iff.rfl
theorem i_91_0 : t_ins 91 0 = some (.aload_n 0) := by decide +kernel
theorem i_91_1 : t_ins 91 1 = some (.getfield 12) := by decide +kernel
theorem i_91_4 : t_ins 91 4 = some (.iload_n 1) := by decide +kernel
theorem i_91_5 : t_ins 91 5 = some (.invokevirtual 126) := by decide +kernel
theorem i_91_8 : t_ins 91 8 = some (.istore_n 3) := by decide +kernel
theorem i_91_9 : t_ins 91 9 = some (.aload_n 0) := by decide +kernel
theorem i_91_10 : t_ins 91 10 = some (.getfield 12) := by decide +kernel
theorem i_91_13 : t_ins 91 13 = some (.iload_n 1) := by decide +kernel
theorem i_91_14 : t_ins 91 14 = some (.invokevirtual 91) := by decide +kernel
theorem i_91_17 : t_ins 91 17 = some (.ifCond .eq 39) := by decide +kernel
theorem i_91_20 : t_ins 91 20 = some (.iload_n 2) := by decide +kernel
theorem i_91_21 : t_ins 91 21 = some (.aload_n 0) := by decide +kernel
theorem i_91_22 : t_ins 91 22 = some (.getfield 12) := by decide +kernel
theorem i_91_25 : t_ins 91 25 = some (.getfield 129) := by decide +kernel
theorem i_91_28 : t_ins 91 28 = some (.iload_n 3) := by decide +kernel
theorem i_91_29 : t_ins 91 29 = some (.iaload) := by decide +kernel
theorem i_91_30 : t_ins 91 30 = some (.iadd) := by decide +kernel
theorem i_91_31 : t_ins 91 31 = some (.bipush 30) := by decide +kernel
theorem i_91_33 : t_ins 91 33 = some (.if_icmp .gt 23) := by decide +kernel
theorem i_91_36 : t_ins 91 36 = some (.aload_n 0) := by decide +kernel
theorem i_91_37 : t_ins 91 37 = some (.getfield 52) := by decide +kernel
theorem i_91_40 : t_ins 91 40 = some (.aload_n 0) := by decide +kernel
theorem i_91_41 : t_ins 91 41 = some (.getfield 12) := by decide +kernel
theorem i_91_44 : t_ins 91 44 = some (.getfield 130) := by decide +kernel
theorem i_91_47 : t_ins 91 47 = some (.iload_n 3) := by decide +kernel
theorem i_91_48 : t_ins 91 48 = some (.iaload) := by decide +kernel
theorem i_91_49 : t_ins 91 49 = some (.iadd) := by decide +kernel
theorem i_91_50 : t_ins 91 50 = some (.sipush 1000) := by decide +kernel
theorem i_91_53 : t_ins 91 53 = some (.if_icmp .le 5) := by decide +kernel
theorem i_91_56 : t_ins 91 56 = some (.iconst 0) := by decide +kernel
theorem i_91_57 : t_ins 91 57 = some (.ireturn) := by decide +kernel
theorem i_91_58 : t_ins 91 58 = some (.aload_n 0) := by decide +kernel
theorem i_91_59 : t_ins 91 59 = some (.dup) := by decide +kernel
theorem i_91_60 : t_ins 91 60 = some (.getfield 52) := by decide +kernel
theorem i_91_63 : t_ins 91 63 = some (.aload_n 0) := by decide +kernel
theorem i_91_64 : t_ins 91 64 = some (.getfield 12) := by decide +kernel
theorem i_91_67 : t_ins 91 67 = some (.getfield 130) := by decide +kernel
theorem i_91_70 : t_ins 91 70 = some (.iload_n 3) := by decide +kernel
theorem i_91_71 : t_ins 91 71 = some (.iaload) := by decide +kernel
theorem i_91_72 : t_ins 91 72 = some (.iadd) := by decide +kernel
theorem i_91_73 : t_ins 91 73 = some (.putfield 52) := by decide +kernel
theorem i_91_76 : t_ins 91 76 = some (.iconst 1) := by decide +kernel
theorem i_91_77 : t_ins 91 77 = some (.ireturn) := by decide +kernel
theorem q_91_0 : XX d 91 0 [some (.ref a), v1, v2, v3] st A Q ↔ XX d 91 1 [some (.ref a), v1, v2, v3] (.ref a :: st) A Q := c_lcl i_91_0 rfl rfl
theorem q_91_1 : XX d 91 1 [v0, v1, v2, v3] (.ref a :: st) (mk S I L R G) Q ↔ S a = some (.inr 9) ∧ XX d 91 4 [v0, v1, v2, v3] (.ref (a + 1) :: st) (mk S I L R G) Q := r_gf i_91_1 rfl (by decide) rfl
theorem q_91_4 : XX d 91 4 [v0, some (.int x), v2, v3] st A Q ↔ XX d 91 5 [v0, some (.int x), v2, v3] (.int x :: st) A Q := c_lcl i_91_4 rfl rfl
theorem q_91_5 : XX (d + 1) 91 5 [v0, v1, v2, v3] [.int x1, .ref a0] (mk S I L R G) Q ↔ S a0 = some (.inr 4) ∧ XC d 27 [.ref a0, .int x1] (mk S I L R G) (XK (d + 1) 91 5 [v0, v1, v2, v3] [] Q) := c_callV i_91_5 rfl rfl rfl rfl (Nat.le_of_ble_eq_true rfl) (Nat.le_of_ble_eq_true rfl) rfl
theorem q_91_8 : XX d 91 8 [v0, v1, some (.int z), v3] (.int x :: st) A Q ↔ XX d 91 9 [v0, v1, some (.int z), some (.int x)] st A Q := c_lcl i_91_8 rfl rfl
theorem q_91_9 : XX d 91 9 [some (.ref a), v1, v2, v3] st A Q ↔ XX d 91 10 [some (.ref a), v1, v2, v3] (.ref a :: st) A Q := c_lcl i_91_9 rfl rfl
theorem q_91_10 : XX d 91 10 [v0, v1, v2, v3] (.ref a :: st) (mk S I L R G) Q ↔ S a = some (.inr 9) ∧ XX d 91 13 [v0, v1, v2, v3] (.ref (a + 1) :: st) (mk S I L R G) Q := r_gf i_91_10 rfl (by decide) rfl
theorem q_91_13 : XX d 91 13 [v0, some (.int x), v2, v3] st A Q ↔ XX d 91 14 [v0, some (.int x), v2, v3] (.int x :: st) A Q := c_lcl i_91_13 rfl rfl
theorem q_91_14 : XX (d + 1) 91 14 [v0, v1, v2, v3] [.int x1, .ref a0] (mk S I L R G) Q ↔ S a0 = some (.inr 4) ∧ XC d 30 [.ref a0, .int x1] (mk S I L R G) (XK (d + 1) 91 14 [v0, v1, v2, v3] [] Q) := c_callV i_91_14 rfl rfl rfl rfl (Nat.le_of_ble_eq_true rfl) (Nat.le_of_ble_eq_true rfl) rfl
theorem q_91_17 : XX d 91 17 [v0, v1, v2, v3] (.int x :: st) A Q ↔ if x = w 0 then XX d 91 56 [v0, v1, v2, v3] st A Q else XX d 91 20 [v0, v1, v2, v3] st A Q := z_eq i_91_17 rfl rfl rfl
theorem q_91_20 : XX d 91 20 [v0, v1, some (.int x), v3] st A Q ↔ XX d 91 21 [v0, v1, some (.int x), v3] (.int x :: st) A Q := c_lcl i_91_20 rfl rfl
theorem q_91_21 : XX d 91 21 [some (.ref a), v1, v2, v3] st A Q ↔ XX d 91 22 [some (.ref a), v1, v2, v3] (.ref a :: st) A Q := c_lcl i_91_21 rfl rfl
theorem q_91_22 : XX d 91 22 [v0, v1, v2, v3] (.ref a :: st) (mk S I L R G) Q ↔ S a = some (.inr 9) ∧ XX d 91 25 [v0, v1, v2, v3] (.ref (a + 1) :: st) (mk S I L R G) Q := r_gf i_91_22 rfl (by decide) rfl
theorem q_91_25 : XX d 91 25 [v0, v1, v2, v3] (.ref a :: st) (mk S I L R G) Q ↔ S a = some (.inr 4) ∧ XX d 91 28 [v0, v1, v2, v3] (.ref (a + 5) :: st) (mk S I L R G) Q := r_gf i_91_25 rfl (by decide) rfl
theorem q_91_28 : XX d 91 28 [v0, v1, v2, some (.int x)] st A Q ↔ XX d 91 29 [v0, v1, v2, some (.int x)] (.int x :: st) A Q := c_lcl i_91_28 rfl rfl
theorem q_91_29 : XX d 91 29 [v0, v1, v2, v3] (.int x :: .ref a :: st) (mk S I L R G) Q ↔ inA (S a) ok_i x ∧ XX d 91 30 [v0, v1, v2, v3] (.int (I a (ix x)) :: st) (mk S I L R G) Q := r_ia i_91_29
theorem q_91_30 : XX d 91 30 [v0, v1, v2, v3] (.int y :: .int x :: st) A Q ↔ XX d 91 31 [v0, v1, v2, v3] (.int (x + y) :: st) A Q := c_stk i_91_30 rfl
theorem q_91_31 : XX d 91 31 [v0, v1, v2, v3] st A Q ↔ XX d 91 33 [v0, v1, v2, v3] (.int (w 30) :: st) A Q := c_stk i_91_31 rfl
theorem q_91_33 : XX d 91 33 [v0, v1, v2, v3] (.int y :: .int x :: st) A Q ↔ if y < x then XX d 91 56 [v0, v1, v2, v3] st A Q else XX d 91 36 [v0, v1, v2, v3] st A Q := b_gt i_91_33 rfl rfl rfl
theorem q_91_36 : XX d 91 36 [some (.ref a), v1, v2, v3] st A Q ↔ XX d 91 37 [some (.ref a), v1, v2, v3] (.ref a :: st) A Q := c_lcl i_91_36 rfl rfl
theorem q_91_37 : XX d 91 37 [v0, v1, v2, v3] (.ref a :: st) (mk S I L R G) Q ↔ S a = some (.inr 9) ∧ XX d 91 40 [v0, v1, v2, v3] (.int (I a 9) :: st) (mk S I L R G) Q := r_gf i_91_37 rfl (by decide) rfl
theorem q_91_40 : XX d 91 40 [some (.ref a), v1, v2, v3] st A Q ↔ XX d 91 41 [some (.ref a), v1, v2, v3] (.ref a :: st) A Q := c_lcl i_91_40 rfl rfl
theorem q_91_41 : XX d 91 41 [v0, v1, v2, v3] (.ref a :: st) (mk S I L R G) Q ↔ S a = some (.inr 9) ∧ XX d 91 44 [v0, v1, v2, v3] (.ref (a + 1) :: st) (mk S I L R G) Q := r_gf i_91_41 rfl (by decide) rfl
theorem q_91_44 : XX d 91 44 [v0, v1, v2, v3] (.ref a :: st) (mk S I L R G) Q ↔ S a = some (.inr 4) ∧ XX d 91 47 [v0, v1, v2, v3] (.ref (a + 4) :: st) (mk S I L R G) Q := r_gf i_91_44 rfl (by decide) rfl
theorem q_91_47 : XX d 91 47 [v0, v1, v2, some (.int x)] st A Q ↔ XX d 91 48 [v0, v1, v2, some (.int x)] (.int x :: st) A Q := c_lcl i_91_47 rfl rfl
theorem q_91_48 : XX d 91 48 [v0, v1, v2, v3] (.int x :: .ref a :: st) (mk S I L R G) Q ↔ inA (S a) ok_i x ∧ XX d 91 49 [v0, v1, v2, v3] (.int (I a (ix x)) :: st) (mk S I L R G) Q := r_ia i_91_48
theorem q_91_49 : XX d 91 49 [v0, v1, v2, v3] (.int y :: .int x :: st) A Q ↔ XX d 91 50 [v0, v1, v2, v3] (.int (x + y) :: st) A Q := c_stk i_91_49 rfl
theorem q_91_50 : XX d 91 50 [v0, v1, v2, v3] st A Q ↔ XX d 91 53 [v0, v1, v2, v3] (.int (w 1000) :: st) A Q := c_stk i_91_50 rfl
theorem q_91_53 : XX d 91 53 [v0, v1, v2, v3] (.int y :: .int x :: st) A Q ↔ if y < x then XX d 91 56 [v0, v1, v2, v3] st A Q else XX d 91 58 [v0, v1, v2, v3] st A Q := b_le i_91_53 rfl rfl rfl
theorem q_91_56 : XX d 91 56 [v0, v1, v2, v3] st A Q ↔ XX d 91 57 [v0, v1, v2, v3] (.int (w 0) :: st) A Q := c_stk i_91_56 rfl
theorem q_91_57 : XX d 91 57 [v0, v1, v2, v3] [.int x] A Q ↔ (x = w 0 ∨ x = w 1) ∧ Q (.inl (some (.int x))) A := e_retZ i_91_57 rfl
theorem q_91_58 : XX d 91 58 [some (.ref a), v1, v2, v3] st A Q ↔ XX d 91 59 [some (.ref a), v1, v2, v3] (.ref a :: st) A Q := c_lcl i_91_58 rfl rfl
theorem q_91_59 : XX d 91 59 [v0, v1, v2, v3] (.ref a1 :: st) A Q ↔ XX d 91 60 [v0, v1, v2, v3] (.ref a1 :: .ref a1 :: st) A Q := c_stk i_91_59 rfl
theorem q_91_60 : XX d 91 60 [v0, v1, v2, v3] (.ref a :: st) (mk S I L R G) Q ↔ S a = some (.inr 9) ∧ XX d 91 63 [v0, v1, v2, v3] (.int (I a 9) :: st) (mk S I L R G) Q := r_gf i_91_60 rfl (by decide) rfl
theorem q_91_63 : XX d 91 63 [some (.ref a), v1, v2, v3] st A Q ↔ XX d 91 64 [some (.ref a), v1, v2, v3] (.ref a :: st) A Q := c_lcl i_91_63 rfl rfl
theorem q_91_64 : XX d 91 64 [v0, v1, v2, v3] (.ref a :: st) (mk S I L R G) Q ↔ S a = some (.inr 9) ∧ XX d 91 67 [v0, v1, v2, v3] (.ref (a + 1) :: st) (mk S I L R G) Q := r_gf i_91_64 rfl (by decide) rfl
theorem q_91_67 : XX d 91 67 [v0, v1, v2, v3] (.ref a :: st) (mk S I L R G) Q ↔ S a = some (.inr 4) ∧ XX d 91 70 [v0, v1, v2, v3] (.ref (a + 4) :: st) (mk S I L R G) Q := r_gf i_91_67 rfl (by decide) rfl
theorem q_91_70 : XX d 91 70 [v0, v1, v2, some (.int x)] st A Q ↔ XX d 91 71 [v0, v1, v2, some (.int x)] (.int x :: st) A Q := c_lcl i_91_70 rfl rfl
theorem q_91_71 : XX d 91 71 [v0, v1, v2, v3] (.int x :: .ref a :: st) (mk S I L R G) Q ↔ inA (S a) ok_i x ∧ XX d 91 72 [v0, v1, v2, v3] (.int (I a (ix x)) :: st) (mk S I L R G) Q := r_ia i_91_71
theorem q_91_72 : XX d 91 72 [v0, v1, v2, v3] (.int y :: .int x :: st) A Q ↔ XX d 91 73 [v0, v1, v2, v3] (.int (x + y) :: st) A Q := c_stk i_91_72 rfl
theorem q_91_73 : XX d 91 73 [v0, v1, v2, v3] (.int x :: .ref a :: st) (mk S I L R G) Q ↔ S a = some (.inr 9) ∧ XX d 91 76 [v0, v1, v2, v3] st (mk S (wr I a (up (I a) 9 x)) L R G) Q := r_pf i_91_73 rfl (by decide) rfl rfl rfl
theorem q_91_76 : XX d 91 76 [v0, v1, v2, v3] st A Q ↔ XX d 91 77 [v0, v1, v2, v3] (.int (w 1) :: st) A Q := c_stk i_91_76 rfl
theorem q_91_77 : XX d 91 77 [v0, v1, v2, v3] [.int x] A Q ↔ (x = w 0 ∨ x = w 1) ∧ Q (.inl (some (.int x))) A := e_retZ i_91_77 rfl
theorem q_91_e : XC d 91 [.ref a0, .int x1, .int x2] A Q ↔ XX d 91 0 [some (.ref a0), some (.int x1), some (.int x2), none] [] A Q := Iff.rfl
theorem i_92_0 : t_ins 92 0 = some (.iload_n 2) := by decide +kernel
theorem i_92_1 : t_ins 92 1 = some (.ifCond .lt 18) := by decide +kernel
theorem i_92_4 : t_ins 92 4 = some (.iload_n 2) := by decide +kernel
theorem i_92_5 : t_ins 92 5 = some (.bipush 30) := by decide +kernel
theorem i_92_7 : t_ins 92 7 = some (.if_icmp .ge 12) := by decide +kernel
theorem i_92_10 : t_ins 92 10 = some (.aload_n 0) := by decide +kernel
theorem i_92_11 : t_ins 92 11 = some (.getfield 27) := by decide +kernel
theorem i_92_14 : t_ins 92 14 = some (.iload_n 2) := by decide +kernel
theorem i_92_15 : t_ins 92 15 = some (.aaload) := by decide +kernel
theorem i_92_16 : t_ins 92 16 = some (.goto 4) := by decide +kernel
theorem i_92_19 : t_ins 92 19 = some (.aconst_null) := by decide +kernel
theorem i_92_20 : t_ins 92 20 = some (.astore 4) := by decide +kernel
theorem i_92_22 : t_ins 92 22 = some (.aload 4) := by decide +kernel
theorem i_92_24 : t_ins 92 24 = some (.ifnull 13) := by decide +kernel
theorem i_92_27 : t_ins 92 27 = some (.iload_n 3) := by decide +kernel
theorem i_92_28 : t_ins 92 28 = some (.ifCond .lt 9) := by decide +kernel
theorem i_92_31 : t_ins 92 31 = some (.iload_n 3) := by decide +kernel
theorem i_92_32 : t_ins 92 32 = some (.bipush 30) := by decide +kernel
theorem i_92_34 : t_ins 92 34 = some (.if_icmp .lt 5) := by decide +kernel
theorem i_92_37 : t_ins 92 37 = some (.iconst 0) := by decide +kernel
theorem i_92_38 : t_ins 92 38 = some (.ireturn) := by decide +kernel
theorem i_92_39 : t_ins 92 39 = some (.iconst 0) := by decide +kernel
theorem i_92_40 : t_ins 92 40 = some (.istore 5) := by decide +kernel
theorem i_92_42 : t_ins 92 42 = some (.iconst 0) := by decide +kernel
theorem i_92_43 : t_ins 92 43 = some (.istore 6) := by decide +kernel
theorem i_92_45 : t_ins 92 45 = some (.iload 6) := by decide +kernel
theorem i_92_47 : t_ins 92 47 = some (.aload 4) := by decide +kernel
theorem i_92_49 : t_ins 92 49 = some (.invokevirtual 132) := by decide +kernel
theorem i_92_52 : t_ins 92 52 = some (.if_icmp .ge 154) := by decide +kernel
theorem i_92_55 : t_ins 92 55 = some (.aload 4) := by decide +kernel
theorem i_92_57 : t_ins 92 57 = some (.iload 6) := by decide +kernel
theorem i_92_59 : t_ins 92 59 = some (.invokevirtual 135) := by decide +kernel
theorem i_92_62 : t_ins 92 62 = some (.istore 7) := by decide +kernel
theorem i_92_64 : t_ins 92 64 = some (.iload 7) := by decide +kernel
theorem i_92_66 : t_ins 92 66 = some (.bipush 6) := by decide +kernel
theorem i_92_68 : t_ins 92 68 = some (.if_icmp .ne 9) := by decide +kernel
theorem i_92_71 : t_ins 92 71 = some (.iconst 1) := by decide +kernel
theorem i_92_72 : t_ins 92 72 = some (.istore 5) := by decide +kernel
theorem i_92_74 : t_ins 92 74 = some (.goto 126) := by decide +kernel
theorem i_92_77 : t_ins 92 77 = some (.aload 4) := by decide +kernel
theorem i_92_79 : t_ins 92 79 = some (.iload 6) := by decide +kernel
theorem i_92_81 : t_ins 92 81 = some (.iload_n 1) := by decide +kernel
theorem i_92_82 : t_ins 92 82 = some (.invokevirtual 138) := by decide +kernel
theorem i_92_85 : t_ins 92 85 = some (.ifCond .eq 6) := by decide +kernel
theorem i_92_88 : t_ins 92 88 = some (.goto 112) := by decide +kernel
theorem i_92_91 : t_ins 92 91 = some (.aload_n 0) := by decide +kernel
theorem i_92_92 : t_ins 92 92 = some (.getfield 46) := by decide +kernel
theorem i_92_95 : t_ins 92 95 = some (.iload_n 3) := by decide +kernel
theorem i_92_96 : t_ins 92 96 = some (.iaload) := by decide +kernel
theorem i_92_97 : t_ins 92 97 = some (.istore 8) := by decide +kernel
theorem i_92_99 : t_ins 92 99 = some (.iload 7) := by decide +kernel
theorem i_92_101 : t_ins 92 101 = some (.ifCond .ne 19) := by decide +kernel
theorem i_92_104 : t_ins 92 104 = some (.aload_n 0) := by decide +kernel
theorem i_92_105 : t_ins 92 105 = some (.aload 4) := by decide +kernel
theorem i_92_107 : t_ins 92 107 = some (.iload 6) := by decide +kernel
theorem i_92_109 : t_ins 92 109 = some (.iload_n 3) := by decide +kernel
theorem i_92_110 : t_ins 92 110 = some (.iload 5) := by decide +kernel
theorem i_92_112 : t_ins 92 112 = some (.invokevirtual 141) := by decide +kernel
theorem i_92_115 : t_ins 92 115 = some (.istore 9) := by decide +kernel
theorem i_92_117 : t_ins 92 117 = some (.goto 50) := by decide +kernel
theorem i_92_120 : t_ins 92 120 = some (.aload 4) := by decide +kernel
theorem i_92_122 : t_ins 92 122 = some (.iload 6) := by decide +kernel
theorem i_92_124 : t_ins 92 124 = some (.iload_n 1) := by decide +kernel
theorem i_92_125 : t_ins 92 125 = some (.invokevirtual 145) := by decide +kernel
theorem i_92_128 : t_ins 92 128 = some (.istore 10) := by decide +kernel
theorem i_92_130 : t_ins 92 130 = some (.aload_n 0) := by decide +kernel
theorem i_92_131 : t_ins 92 131 = some (.iload 10) := by decide +kernel
theorem i_92_133 : t_ins 92 133 = some (.iload_n 3) := by decide +kernel
theorem i_92_134 : t_ins 92 134 = some (.iconst 1) := by decide +kernel
theorem i_92_135 : t_ins 92 135 = some (.iadd) := by decide +kernel
theorem i_92_136 : t_ins 92 136 = some (.invokevirtual 83) := by decide +kernel
theorem i_92_139 : t_ins 92 139 = some (.ifCond .ne 17) := by decide +kernel
theorem i_92_142 : t_ins 92 142 = some (.aload_n 0) := by decide +kernel
theorem i_92_143 : t_ins 92 143 = some (.getfield 21) := by decide +kernel
theorem i_92_146 : t_ins 92 146 = some (.iload_n 3) := by decide +kernel
theorem i_92_147 : t_ins 92 147 = some (.iload_n 1) := by decide +kernel
theorem i_92_148 : t_ins 92 148 = some (.iconst 0) := by decide +kernel
theorem i_92_149 : t_ins 92 149 = some (.iload_n 2) := by decide +kernel
theorem i_92_150 : t_ins 92 150 = some (.iload 6) := by decide +kernel
theorem i_92_152 : t_ins 92 152 = some (.invokevirtual 108) := by decide +kernel
theorem i_92_155 : t_ins 92 155 = some (.ireturn) := by decide +kernel
theorem i_92_156 : t_ins 92 156 = some (.aload_n 0) := by decide +kernel
theorem i_92_157 : t_ins 92 157 = some (.iload 10) := by decide +kernel
theorem i_92_159 : t_ins 92 159 = some (.iload_n 3) := by decide +kernel
theorem i_92_160 : t_ins 92 160 = some (.iload 5) := by decide +kernel
theorem i_92_162 : t_ins 92 162 = some (.invokevirtual 148) := by decide +kernel
theorem i_92_165 : t_ins 92 165 = some (.istore 9) := by decide +kernel
theorem i_92_167 : t_ins 92 167 = some (.iload 9) := by decide +kernel
theorem i_92_169 : t_ins 92 169 = some (.ifCond .ne 17) := by decide +kernel
theorem i_92_172 : t_ins 92 172 = some (.aload_n 0) := by decide +kernel
theorem i_92_173 : t_ins 92 173 = some (.getfield 21) := by decide +kernel
theorem i_92_176 : t_ins 92 176 = some (.iload_n 3) := by decide +kernel
theorem i_92_177 : t_ins 92 177 = some (.iload_n 1) := by decide +kernel
theorem i_92_178 : t_ins 92 178 = some (.iconst 5) := by decide +kernel
theorem i_92_179 : t_ins 92 179 = some (.iload_n 2) := by decide +kernel
theorem i_92_180 : t_ins 92 180 = some (.iload 6) := by decide +kernel
theorem i_92_182 : t_ins 92 182 = some (.invokevirtual 108) := by decide +kernel
theorem i_92_185 : t_ins 92 185 = some (.ireturn) := by decide +kernel
theorem i_92_186 : t_ins 92 186 = some (.aload_n 0) := by decide +kernel
theorem i_92_187 : t_ins 92 187 = some (.getfield 46) := by decide +kernel
theorem i_92_190 : t_ins 92 190 = some (.iload_n 3) := by decide +kernel
theorem i_92_191 : t_ins 92 191 = some (.iaload) := by decide +kernel
theorem i_92_192 : t_ins 92 192 = some (.iload 8) := by decide +kernel
theorem i_92_194 : t_ins 92 194 = some (.if_icmp .le 6) := by decide +kernel
theorem i_92_197 : t_ins 92 197 = some (.iconst 0) := by decide +kernel
theorem i_92_198 : t_ins 92 198 = some (.istore 5) := by decide +kernel
theorem i_92_200 : t_ins 92 200 = some (.iinc 6 1) := by decide +kernel
theorem i_92_203 : t_ins 92 203 = some (.goto (-158)) := by decide +kernel
theorem i_92_206 : t_ins 92 206 = some (.iconst 1) := by decide +kernel
theorem i_92_207 : t_ins 92 207 = some (.ireturn) := by decide +kernel
theorem q_92_0 : XX d 92 0 [v0, v1, some (.int x), v3, v4, v5, v6, v7, v8, v9, v10] st A Q ↔ XX d 92 1 [v0, v1, some (.int x), v3, v4, v5, v6, v7, v8, v9, v10] (.int x :: st) A Q := c_lcl i_92_0 rfl rfl
theorem q_92_1 : XX d 92 1 [v0, v1, v2, v3, v4, v5, v6, v7, v8, v9, v10] (.int x :: st) A Q ↔ if x < w 0 then XX d 92 19 [v0, v1, v2, v3, v4, v5, v6, v7, v8, v9, v10] st A Q else XX d 92 4 [v0, v1, v2, v3, v4, v5, v6, v7, v8, v9, v10] st A Q := z_lt i_92_1 rfl rfl rfl
theorem q_92_4 : XX d 92 4 [v0, v1, some (.int x), v3, v4, v5, v6, v7, v8, v9, v10] st A Q ↔ XX d 92 5 [v0, v1, some (.int x), v3, v4, v5, v6, v7, v8, v9, v10] (.int x :: st) A Q := c_lcl i_92_4 rfl rfl
theorem q_92_5 : XX d 92 5 [v0, v1, v2, v3, v4, v5, v6, v7, v8, v9, v10] st A Q ↔ XX d 92 7 [v0, v1, v2, v3, v4, v5, v6, v7, v8, v9, v10] (.int (w 30) :: st) A Q := c_stk i_92_5 rfl
theorem q_92_7 : XX d 92 7 [v0, v1, v2, v3, v4, v5, v6, v7, v8, v9, v10] (.int y :: .int x :: st) A Q ↔ if x < y then XX d 92 10 [v0, v1, v2, v3, v4, v5, v6, v7, v8, v9, v10] st A Q else XX d 92 19 [v0, v1, v2, v3, v4, v5, v6, v7, v8, v9, v10] st A Q := b_ge i_92_7 rfl rfl rfl
theorem q_92_10 : XX d 92 10 [some (.ref a), v1, v2, v3, v4, v5, v6, v7, v8, v9, v10] st A Q ↔ XX d 92 11 [some (.ref a), v1, v2, v3, v4, v5, v6, v7, v8, v9, v10] (.ref a :: st) A Q := c_lcl i_92_10 rfl rfl
theorem q_92_11 : XX d 92 11 [v0, v1, v2, v3, v4, v5, v6, v7, v8, v9, v10] (.ref a :: st) (mk S I L R G) Q ↔ S a = some (.inr 9) ∧ XX d 92 14 [v0, v1, v2, v3, v4, v5, v6, v7, v8, v9, v10] (.ref (a + 12) :: st) (mk S I L R G) Q := r_gf i_92_11 rfl (by decide) rfl
theorem q_92_14 : XX d 92 14 [v0, v1, some (.int x), v3, v4, v5, v6, v7, v8, v9, v10] st A Q ↔ XX d 92 15 [v0, v1, some (.int x), v3, v4, v5, v6, v7, v8, v9, v10] (.int x :: st) A Q := c_lcl i_92_14 rfl rfl
theorem q_92_15 : XX d 92 15 [v0, v1, v2, v3, v4, v5, v6, v7, v8, v9, v10] (.int x :: .ref a :: st) (mk S I L R G) Q ↔ inA (S a) ok_q x ∧ XX d 92 16 [v0, v1, v2, v3, v4, v5, v6, v7, v8, v9, v10] (va_rf (R a (ix x)) :: st) (mk S I L R G) Q := r_aq i_92_15
theorem q_92_16 : XX d 92 16 [v0, v1, v2, v3, v4, v5, v6, v7, v8, v9, v10] st A Q ↔ XX d 92 20 [v0, v1, v2, v3, v4, v5, v6, v7, v8, v9, v10] st A Q := c_go i_92_16 rfl rfl
theorem q_92_19 : XX d 92 19 [v0, v1, v2, v3, v4, v5, v6, v7, v8, v9, v10] st A Q ↔ XX d 92 20 [v0, v1, v2, v3, v4, v5, v6, v7, v8, v9, v10] (.null :: st) A Q := c_stk i_92_19 rfl
theorem q_92_20 : XX d 92 20 [v0, v1, v2, some (.int z), v4, v5, v6, v7, v8, v9, v10] (.ref a :: st) A Q ↔ XX d 92 22 [v0, v1, v2, some (.int z), some (.ref a), v5, v6, v7, v8, v9, v10] st A Q := c_lcl i_92_20 rfl rfl
theorem q_92_20o : XX d 92 20 [v0, v1, v2, some (.int z), v4, v5, v6, v7, v8, v9, v10] (va_rf o :: st) A Q ↔ XX d 92 22 [v0, v1, v2, some (.int z), some (va_rf o), v5, v6, v7, v8, v9, v10] st A Q := by cases o <;> exact c_lcl i_92_20 rfl rfl
theorem q_92_22 : XX d 92 22 [v0, v1, v2, v3, some (.ref a), v5, v6, v7, v8, v9, v10] st A Q ↔ XX d 92 24 [v0, v1, v2, v3, some (.ref a), v5, v6, v7, v8, v9, v10] (.ref a :: st) A Q := c_lcl i_92_22 rfl rfl
theorem q_92_22o : XX d 92 22 [v0, v1, v2, v3, some (va_rf o), v5, v6, v7, v8, v9, v10] st A Q ↔ XX d 92 24 [v0, v1, v2, v3, some (va_rf o), v5, v6, v7, v8, v9, v10] (va_rf o :: st) A Q := by cases o <;> exact c_lcl i_92_22 rfl rfl
theorem q_92_24o : XX d 92 24 [v0, v1, v2, v3, v4, v5, v6, v7, v8, v9, v10] (va_rf o :: st) A Q ↔ if o = none then XX d 92 37 [v0, v1, v2, v3, v4, v5, v6, v7, v8, v9, v10] st A Q else XX d 92 27 [v0, v1, v2, v3, v4, v5, v6, v7, v8, v9, v10] st A Q := b_null i_92_24 rfl rfl rfl
theorem q_92_24 : XX d 92 24 [v0, v1, v2, v3, v4, v5, v6, v7, v8, v9, v10] (.ref a :: st) A Q ↔ XX d 92 27 [v0, v1, v2, v3, v4, v5, v6, v7, v8, v9, v10] st A Q := c_br i_92_24 rfl rfl rfl
theorem q_92_27 : XX d 92 27 [v0, v1, v2, some (.int x), v4, v5, v6, v7, v8, v9, v10] st A Q ↔ XX d 92 28 [v0, v1, v2, some (.int x), v4, v5, v6, v7, v8, v9, v10] (.int x :: st) A Q := c_lcl i_92_27 rfl rfl
theorem q_92_28 : XX d 92 28 [v0, v1, v2, v3, v4, v5, v6, v7, v8, v9, v10] (.int x :: st) A Q ↔ if x < w 0 then XX d 92 37 [v0, v1, v2, v3, v4, v5, v6, v7, v8, v9, v10] st A Q else XX d 92 31 [v0, v1, v2, v3, v4, v5, v6, v7, v8, v9, v10] st A Q := z_lt i_92_28 rfl rfl rfl
theorem q_92_31 : XX d 92 31 [v0, v1, v2, some (.int x), v4, v5, v6, v7, v8, v9, v10] st A Q ↔ XX d 92 32 [v0, v1, v2, some (.int x), v4, v5, v6, v7, v8, v9, v10] (.int x :: st) A Q := c_lcl i_92_31 rfl rfl
theorem q_92_32 : XX d 92 32 [v0, v1, v2, v3, v4, v5, v6, v7, v8, v9, v10] st A Q ↔ XX d 92 34 [v0, v1, v2, v3, v4, v5, v6, v7, v8, v9, v10] (.int (w 30) :: st) A Q := c_stk i_92_32 rfl
theorem q_92_34 : XX d 92 34 [v0, v1, v2, v3, v4, v5, v6, v7, v8, v9, v10] (.int y :: .int x :: st) A Q ↔ if x < y then XX d 92 39 [v0, v1, v2, v3, v4, v5, v6, v7, v8, v9, v10] st A Q else XX d 92 37 [v0, v1, v2, v3, v4, v5, v6, v7, v8, v9, v10] st A Q := b_lt i_92_34 rfl rfl rfl
theorem q_92_37 : XX d 92 37 [v0, v1, v2, v3, v4, v5, v6, v7, v8, v9, v10] st A Q ↔ XX d 92 38 [v0, v1, v2, v3, v4, v5, v6, v7, v8, v9, v10] (.int (w 0) :: st) A Q := c_stk i_92_37 rfl
theorem q_92_38 : XX d 92 38 [v0, v1, v2, v3, v4, v5, v6, v7, v8, v9, v10] [.int x] A Q ↔ (x = w 0 ∨ x = w 1) ∧ Q (.inl (some (.int x))) A := e_retZ i_92_38 rfl
theorem q_92_39 : XX d 92 39 [v0, v1, v2, v3, v4, v5, v6, v7, v8, v9, v10] st A Q ↔ XX d 92 40 [v0, v1, v2, v3, v4, v5, v6, v7, v8, v9, v10] (.int (w 0) :: st) A Q := c_stk i_92_39 rfl
theorem q_92_40 : XX d 92 40 [v0, v1, v2, v3, v4, v5, v6, v7, v8, v9, v10] (.int x :: st) A Q ↔ XX d 92 42 [v0, v1, v2, v3, kl v4, some (.int x), v6, v7, v8, v9, v10] st A Q := by (cases hz : x_two v4 <;> (refine c_lcl i_92_40 rfl ?_; simp [x_lcl, x_stI, x_stA, x_put, x_kill, x_get, kl, hz, va_rf]))
theorem q_92_42 : XX d 92 42 [v0, v1, v2, v3, v4, v5, v6, v7, v8, v9, v10] st A Q ↔ XX d 92 43 [v0, v1, v2, v3, v4, v5, v6, v7, v8, v9, v10] (.int (w 0) :: st) A Q := c_stk i_92_42 rfl
theorem q_92_43 : XX d 92 43 [v0, v1, v2, v3, v4, some (.int z), v6, v7, v8, v9, v10] (.int x :: st) A Q ↔ XX d 92 45 [v0, v1, v2, v3, v4, some (.int z), some (.int x), v7, v8, v9, v10] st A Q := c_lcl i_92_43 rfl rfl
theorem q_92_45 : XX d 92 45 [v0, v1, v2, v3, v4, v5, some (.int x), v7, v8, v9, v10] st A Q ↔ XX d 92 47 [v0, v1, v2, v3, v4, v5, some (.int x), v7, v8, v9, v10] (.int x :: st) A Q := c_lcl i_92_45 rfl rfl
theorem q_92_47 : XX d 92 47 [v0, v1, v2, v3, some (.ref a), v5, v6, v7, v8, v9, v10] st A Q ↔ XX d 92 49 [v0, v1, v2, v3, some (.ref a), v5, v6, v7, v8, v9, v10] (.ref a :: st) A Q := c_lcl i_92_47 rfl rfl
theorem q_92_47o : XX d 92 47 [v0, v1, v2, v3, some (va_rf o), v5, v6, v7, v8, v9, v10] st A Q ↔ XX d 92 49 [v0, v1, v2, v3, some (va_rf o), v5, v6, v7, v8, v9, v10] (va_rf o :: st) A Q := by cases o <;> exact c_lcl i_92_47 rfl rfl
theorem q_92_49 : XX (d + 1) 92 49 [v0, v1, v2, v3, v4, v5, v6, v7, v8, v9, v10] [.ref a0, .int x1] (mk S I L R G) Q ↔ S a0 = some (.inr 6) ∧ XC d 55 [.ref a0] (mk S I L R G) (XK (d + 1) 92 49 [v0, v1, v2, v3, v4, v5, v6, v7, v8, v9, v10] [.int x1] Q) := c_callV i_92_49 rfl rfl rfl rfl (Nat.le_of_ble_eq_true rfl) (Nat.le_of_ble_eq_true rfl) rfl
theorem q_92_52 : XX d 92 52 [v0, v1, v2, v3, v4, v5, v6, v7, v8, v9, v10] (.int y :: .int x :: st) A Q ↔ if x < y then XX d 92 55 [v0, v1, v2, v3, v4, v5, v6, v7, v8, v9, v10] st A Q else XX d 92 206 [v0, v1, v2, v3, v4, v5, v6, v7, v8, v9, v10] st A Q := b_ge i_92_52 rfl rfl rfl
theorem q_92_55 : XX d 92 55 [v0, v1, v2, v3, some (.ref a), v5, v6, v7, v8, v9, v10] st A Q ↔ XX d 92 57 [v0, v1, v2, v3, some (.ref a), v5, v6, v7, v8, v9, v10] (.ref a :: st) A Q := c_lcl i_92_55 rfl rfl
theorem q_92_55o : XX d 92 55 [v0, v1, v2, v3, some (va_rf o), v5, v6, v7, v8, v9, v10] st A Q ↔ XX d 92 57 [v0, v1, v2, v3, some (va_rf o), v5, v6, v7, v8, v9, v10] (va_rf o :: st) A Q := by cases o <;> exact c_lcl i_92_55 rfl rfl
theorem q_92_57 : XX d 92 57 [v0, v1, v2, v3, v4, v5, some (.int x), v7, v8, v9, v10] st A Q ↔ XX d 92 59 [v0, v1, v2, v3, v4, v5, some (.int x), v7, v8, v9, v10] (.int x :: st) A Q := c_lcl i_92_57 rfl rfl
theorem q_92_59 : XX (d + 1) 92 59 [v0, v1, v2, v3, v4, v5, v6, v7, v8, v9, v10] [.int x1, .ref a0] (mk S I L R G) Q ↔ S a0 = some (.inr 6) ∧ XC d 57 [.ref a0, .int x1] (mk S I L R G) (XK (d + 1) 92 59 [v0, v1, v2, v3, v4, v5, v6, v7, v8, v9, v10] [] Q) := c_callV i_92_59 rfl rfl rfl rfl (Nat.le_of_ble_eq_true rfl) (Nat.le_of_ble_eq_true rfl) rfl
theorem q_92_62 : XX d 92 62 [v0, v1, v2, v3, v4, v5, some (.int z), v7, v8, v9, v10] (.int x :: st) A Q ↔ XX d 92 64 [v0, v1, v2, v3, v4, v5, some (.int z), some (.int x), v8, v9, v10] st A Q := c_lcl i_92_62 rfl rfl
theorem q_92_64 : XX d 92 64 [v0, v1, v2, v3, v4, v5, v6, some (.int x), v8, v9, v10] st A Q ↔ XX d 92 66 [v0, v1, v2, v3, v4, v5, v6, some (.int x), v8, v9, v10] (.int x :: st) A Q := c_lcl i_92_64 rfl rfl
theorem q_92_66 : XX d 92 66 [v0, v1, v2, v3, v4, v5, v6, v7, v8, v9, v10] st A Q ↔ XX d 92 68 [v0, v1, v2, v3, v4, v5, v6, v7, v8, v9, v10] (.int (w 6) :: st) A Q := c_stk i_92_66 rfl
theorem q_92_68 : XX d 92 68 [v0, v1, v2, v3, v4, v5, v6, v7, v8, v9, v10] (.int y :: .int x :: st) A Q ↔ if x = y then XX d 92 71 [v0, v1, v2, v3, v4, v5, v6, v7, v8, v9, v10] st A Q else XX d 92 77 [v0, v1, v2, v3, v4, v5, v6, v7, v8, v9, v10] st A Q := b_ne i_92_68 rfl rfl rfl
theorem q_92_71 : XX d 92 71 [v0, v1, v2, v3, v4, v5, v6, v7, v8, v9, v10] st A Q ↔ XX d 92 72 [v0, v1, v2, v3, v4, v5, v6, v7, v8, v9, v10] (.int (w 1) :: st) A Q := c_stk i_92_71 rfl
theorem q_92_72 : XX d 92 72 [v0, v1, v2, v3, v4, v5, v6, v7, v8, v9, v10] (.int x :: st) A Q ↔ XX d 92 74 [v0, v1, v2, v3, kl v4, some (.int x), v6, v7, v8, v9, v10] st A Q := by (cases hz : x_two v4 <;> (refine c_lcl i_92_72 rfl ?_; simp [x_lcl, x_stI, x_stA, x_put, x_kill, x_get, kl, hz, va_rf]))
theorem q_92_74 : XX d 92 74 [v0, v1, v2, v3, v4, v5, v6, v7, v8, v9, v10] st A Q ↔ XX d 92 200 [v0, v1, v2, v3, v4, v5, v6, v7, v8, v9, v10] st A Q := c_go i_92_74 rfl rfl
theorem q_92_77 : XX d 92 77 [v0, v1, v2, v3, some (.ref a), v5, v6, v7, v8, v9, v10] st A Q ↔ XX d 92 79 [v0, v1, v2, v3, some (.ref a), v5, v6, v7, v8, v9, v10] (.ref a :: st) A Q := c_lcl i_92_77 rfl rfl
theorem q_92_77o : XX d 92 77 [v0, v1, v2, v3, some (va_rf o), v5, v6, v7, v8, v9, v10] st A Q ↔ XX d 92 79 [v0, v1, v2, v3, some (va_rf o), v5, v6, v7, v8, v9, v10] (va_rf o :: st) A Q := by cases o <;> exact c_lcl i_92_77 rfl rfl
theorem q_92_79 : XX d 92 79 [v0, v1, v2, v3, v4, v5, some (.int x), v7, v8, v9, v10] st A Q ↔ XX d 92 81 [v0, v1, v2, v3, v4, v5, some (.int x), v7, v8, v9, v10] (.int x :: st) A Q := c_lcl i_92_79 rfl rfl
theorem q_92_81 : XX d 92 81 [v0, some (.int x), v2, v3, v4, v5, v6, v7, v8, v9, v10] st A Q ↔ XX d 92 82 [v0, some (.int x), v2, v3, v4, v5, v6, v7, v8, v9, v10] (.int x :: st) A Q := c_lcl i_92_81 rfl rfl
theorem q_92_82 : XX (d + 1) 92 82 [v0, v1, v2, v3, v4, v5, v6, v7, v8, v9, v10] [.int x2, .int x1, .ref a0] (mk S I L R G) Q ↔ S a0 = some (.inr 6) ∧ XC d 60 [.ref a0, .int x1, .int x2] (mk S I L R G) (XK (d + 1) 92 82 [v0, v1, v2, v3, v4, v5, v6, v7, v8, v9, v10] [] Q) := c_callV i_92_82 rfl rfl rfl rfl (Nat.le_of_ble_eq_true rfl) (Nat.le_of_ble_eq_true rfl) rfl
theorem q_92_85 : XX d 92 85 [v0, v1, v2, v3, v4, v5, v6, v7, v8, v9, v10] (.int x :: st) A Q ↔ if x = w 0 then XX d 92 91 [v0, v1, v2, v3, v4, v5, v6, v7, v8, v9, v10] st A Q else XX d 92 88 [v0, v1, v2, v3, v4, v5, v6, v7, v8, v9, v10] st A Q := z_eq i_92_85 rfl rfl rfl
theorem q_92_88 : XX d 92 88 [v0, v1, v2, v3, v4, v5, v6, v7, v8, v9, v10] st A Q ↔ XX d 92 200 [v0, v1, v2, v3, v4, v5, v6, v7, v8, v9, v10] st A Q := c_go i_92_88 rfl rfl
theorem q_92_91 : XX d 92 91 [some (.ref a), v1, v2, v3, v4, v5, v6, v7, v8, v9, v10] st A Q ↔ XX d 92 92 [some (.ref a), v1, v2, v3, v4, v5, v6, v7, v8, v9, v10] (.ref a :: st) A Q := c_lcl i_92_91 rfl rfl
theorem q_92_92 : XX d 92 92 [v0, v1, v2, v3, v4, v5, v6, v7, v8, v9, v10] (.ref a :: st) (mk S I L R G) Q ↔ S a = some (.inr 9) ∧ XX d 92 95 [v0, v1, v2, v3, v4, v5, v6, v7, v8, v9, v10] (.ref (a + 15) :: st) (mk S I L R G) Q := r_gf i_92_92 rfl (by decide) rfl
theorem q_92_95 : XX d 92 95 [v0, v1, v2, some (.int x), v4, v5, v6, v7, v8, v9, v10] st A Q ↔ XX d 92 96 [v0, v1, v2, some (.int x), v4, v5, v6, v7, v8, v9, v10] (.int x :: st) A Q := c_lcl i_92_95 rfl rfl
theorem q_92_96 : XX d 92 96 [v0, v1, v2, v3, v4, v5, v6, v7, v8, v9, v10] (.int x :: .ref a :: st) (mk S I L R G) Q ↔ inA (S a) ok_i x ∧ XX d 92 97 [v0, v1, v2, v3, v4, v5, v6, v7, v8, v9, v10] (.int (I a (ix x)) :: st) (mk S I L R G) Q := r_ia i_92_96
theorem q_92_97 : XX d 92 97 [v0, v1, v2, v3, v4, v5, v6, some (.int z), v8, v9, v10] (.int x :: st) A Q ↔ XX d 92 99 [v0, v1, v2, v3, v4, v5, v6, some (.int z), some (.int x), v9, v10] st A Q := c_lcl i_92_97 rfl rfl
theorem q_92_99 : XX d 92 99 [v0, v1, v2, v3, v4, v5, v6, some (.int x), v8, v9, v10] st A Q ↔ XX d 92 101 [v0, v1, v2, v3, v4, v5, v6, some (.int x), v8, v9, v10] (.int x :: st) A Q := c_lcl i_92_99 rfl rfl
theorem q_92_101 : XX d 92 101 [v0, v1, v2, v3, v4, v5, v6, v7, v8, v9, v10] (.int x :: st) A Q ↔ if x = w 0 then XX d 92 104 [v0, v1, v2, v3, v4, v5, v6, v7, v8, v9, v10] st A Q else XX d 92 120 [v0, v1, v2, v3, v4, v5, v6, v7, v8, v9, v10] st A Q := z_ne i_92_101 rfl rfl rfl
theorem q_92_104 : XX d 92 104 [some (.ref a), v1, v2, v3, v4, v5, v6, v7, v8, v9, v10] st A Q ↔ XX d 92 105 [some (.ref a), v1, v2, v3, v4, v5, v6, v7, v8, v9, v10] (.ref a :: st) A Q := c_lcl i_92_104 rfl rfl
theorem q_92_105 : XX d 92 105 [v0, v1, v2, v3, some (.ref a), v5, v6, v7, v8, v9, v10] st A Q ↔ XX d 92 107 [v0, v1, v2, v3, some (.ref a), v5, v6, v7, v8, v9, v10] (.ref a :: st) A Q := c_lcl i_92_105 rfl rfl
theorem q_92_105o : XX d 92 105 [v0, v1, v2, v3, some (va_rf o), v5, v6, v7, v8, v9, v10] st A Q ↔ XX d 92 107 [v0, v1, v2, v3, some (va_rf o), v5, v6, v7, v8, v9, v10] (va_rf o :: st) A Q := by cases o <;> exact c_lcl i_92_105 rfl rfl
theorem q_92_107 : XX d 92 107 [v0, v1, v2, v3, v4, v5, some (.int x), v7, v8, v9, v10] st A Q ↔ XX d 92 109 [v0, v1, v2, v3, v4, v5, some (.int x), v7, v8, v9, v10] (.int x :: st) A Q := c_lcl i_92_107 rfl rfl
theorem q_92_109 : XX d 92 109 [v0, v1, v2, some (.int x), v4, v5, v6, v7, v8, v9, v10] st A Q ↔ XX d 92 110 [v0, v1, v2, some (.int x), v4, v5, v6, v7, v8, v9, v10] (.int x :: st) A Q := c_lcl i_92_109 rfl rfl
theorem q_92_110 : XX d 92 110 [v0, v1, v2, v3, v4, some (.int x), v6, v7, v8, v9, v10] st A Q ↔ XX d 92 112 [v0, v1, v2, v3, v4, some (.int x), v6, v7, v8, v9, v10] (.int x :: st) A Q := c_lcl i_92_110 rfl rfl
theorem q_92_112 : XX (d + 1) 92 112 [v0, v1, v2, v3, v4, v5, v6, v7, v8, v9, v10] [.int x4, .int x3, .int x2, .ref a1, .ref a0] (mk S I L R G) Q ↔ S a0 = some (.inr 9) ∧ XC d 93 [.ref a0, .ref a1, .int x2, .int x3, .int x4] (mk S I L R G) (XK (d + 1) 92 112 [v0, v1, v2, v3, v4, v5, v6, v7, v8, v9, v10] [] Q) := c_callV i_92_112 rfl rfl rfl rfl (Nat.le_of_ble_eq_true rfl) (Nat.le_of_ble_eq_true rfl) rfl
theorem q_92_112o : XX (d + 1) 92 112 [v0, v1, v2, v3, v4, v5, v6, v7, v8, v9, v10] [.int x4, .int x3, .int x2, va_rf o1, .ref a0] (mk S I L R G) Q ↔ S a0 = some (.inr 9) ∧ XC d 93 [.ref a0, va_rf o1, .int x2, .int x3, .int x4] (mk S I L R G) (XK (d + 1) 92 112 [v0, v1, v2, v3, v4, v5, v6, v7, v8, v9, v10] [] Q) := by cases o1 <;> exact c_callV i_92_112 rfl rfl rfl rfl (Nat.le_of_ble_eq_true rfl) (Nat.le_of_ble_eq_true rfl) rfl
theorem q_92_115 : XX d 92 115 [v0, v1, v2, v3, v4, v5, v6, v7, some (.int z), v9, v10] (.int x :: st) A Q ↔ XX d 92 117 [v0, v1, v2, v3, v4, v5, v6, v7, some (.int z), some (.int x), v10] st A Q := c_lcl i_92_115 rfl rfl
theorem q_92_117 : XX d 92 117 [v0, v1, v2, v3, v4, v5, v6, v7, v8, v9, v10] st A Q ↔ XX d 92 167 [v0, v1, v2, v3, v4, v5, v6, v7, v8, v9, v10] st A Q := c_go i_92_117 rfl rfl
theorem q_92_120 : XX d 92 120 [v0, v1, v2, v3, some (.ref a), v5, v6, v7, v8, v9, v10] st A Q ↔ XX d 92 122 [v0, v1, v2, v3, some (.ref a), v5, v6, v7, v8, v9, v10] (.ref a :: st) A Q := c_lcl i_92_120 rfl rfl
theorem q_92_120o : XX d 92 120 [v0, v1, v2, v3, some (va_rf o), v5, v6, v7, v8, v9, v10] st A Q ↔ XX d 92 122 [v0, v1, v2, v3, some (va_rf o), v5, v6, v7, v8, v9, v10] (va_rf o :: st) A Q := by cases o <;> exact c_lcl i_92_120 rfl rfl
theorem q_92_122 : XX d 92 122 [v0, v1, v2, v3, v4, v5, some (.int x), v7, v8, v9, v10] st A Q ↔ XX d 92 124 [v0, v1, v2, v3, v4, v5, some (.int x), v7, v8, v9, v10] (.int x :: st) A Q := c_lcl i_92_122 rfl rfl
theorem q_92_124 : XX d 92 124 [v0, some (.int x), v2, v3, v4, v5, v6, v7, v8, v9, v10] st A Q ↔ XX d 92 125 [v0, some (.int x), v2, v3, v4, v5, v6, v7, v8, v9, v10] (.int x :: st) A Q := c_lcl i_92_124 rfl rfl
theorem q_92_125 : XX (d + 1) 92 125 [v0, v1, v2, v3, v4, v5, v6, v7, v8, v9, v10] [.int x2, .int x1, .ref a0] (mk S I L R G) Q ↔ S a0 = some (.inr 6) ∧ XC d 61 [.ref a0, .int x1, .int x2] (mk S I L R G) (XK (d + 1) 92 125 [v0, v1, v2, v3, v4, v5, v6, v7, v8, v9, v10] [] Q) := c_callV i_92_125 rfl rfl rfl rfl (Nat.le_of_ble_eq_true rfl) (Nat.le_of_ble_eq_true rfl) rfl
theorem q_92_128 : XX d 92 128 [v0, v1, v2, v3, v4, v5, v6, v7, v8, v9, v10] (.int x :: st) A Q ↔ XX d 92 130 [v0, v1, v2, v3, v4, v5, v6, v7, v8, kl v9, some (.int x)] st A Q := by (cases hz : x_two v9 <;> (refine c_lcl i_92_128 rfl ?_; simp [x_lcl, x_stI, x_stA, x_put, x_kill, x_get, kl, hz, va_rf]))
theorem q_92_130 : XX d 92 130 [some (.ref a), v1, v2, v3, v4, v5, v6, v7, v8, v9, v10] st A Q ↔ XX d 92 131 [some (.ref a), v1, v2, v3, v4, v5, v6, v7, v8, v9, v10] (.ref a :: st) A Q := c_lcl i_92_130 rfl rfl
theorem q_92_131 : XX d 92 131 [v0, v1, v2, v3, v4, v5, v6, v7, v8, v9, some (.int x)] st A Q ↔ XX d 92 133 [v0, v1, v2, v3, v4, v5, v6, v7, v8, v9, some (.int x)] (.int x :: st) A Q := c_lcl i_92_131 rfl rfl
theorem q_92_133 : XX d 92 133 [v0, v1, v2, some (.int x), v4, v5, v6, v7, v8, v9, v10] st A Q ↔ XX d 92 134 [v0, v1, v2, some (.int x), v4, v5, v6, v7, v8, v9, v10] (.int x :: st) A Q := c_lcl i_92_133 rfl rfl
theorem q_92_134 : XX d 92 134 [v0, v1, v2, v3, v4, v5, v6, v7, v8, v9, v10] st A Q ↔ XX d 92 135 [v0, v1, v2, v3, v4, v5, v6, v7, v8, v9, v10] (.int (w 1) :: st) A Q := c_stk i_92_134 rfl
theorem q_92_135 : XX d 92 135 [v0, v1, v2, v3, v4, v5, v6, v7, v8, v9, v10] (.int y :: .int x :: st) A Q ↔ XX d 92 136 [v0, v1, v2, v3, v4, v5, v6, v7, v8, v9, v10] (.int (x + y) :: st) A Q := c_stk i_92_135 rfl
theorem q_92_136 : XX (d + 1) 92 136 [v0, v1, v2, v3, v4, v5, v6, v7, v8, v9, v10] [.int x2, .int x1, .ref a0] (mk S I L R G) Q ↔ S a0 = some (.inr 9) ∧ XC d 89 [.ref a0, .int x1, .int x2] (mk S I L R G) (XK (d + 1) 92 136 [v0, v1, v2, v3, v4, v5, v6, v7, v8, v9, v10] [] Q) := c_callV i_92_136 rfl rfl rfl rfl (Nat.le_of_ble_eq_true rfl) (Nat.le_of_ble_eq_true rfl) rfl
theorem q_92_139 : XX d 92 139 [v0, v1, v2, v3, v4, v5, v6, v7, v8, v9, v10] (.int x :: st) A Q ↔ if x = w 0 then XX d 92 142 [v0, v1, v2, v3, v4, v5, v6, v7, v8, v9, v10] st A Q else XX d 92 156 [v0, v1, v2, v3, v4, v5, v6, v7, v8, v9, v10] st A Q := z_ne i_92_139 rfl rfl rfl
theorem q_92_142 : XX d 92 142 [some (.ref a), v1, v2, v3, v4, v5, v6, v7, v8, v9, v10] st A Q ↔ XX d 92 143 [some (.ref a), v1, v2, v3, v4, v5, v6, v7, v8, v9, v10] (.ref a :: st) A Q := c_lcl i_92_142 rfl rfl
theorem q_92_143 : XX d 92 143 [v0, v1, v2, v3, v4, v5, v6, v7, v8, v9, v10] (.ref a :: st) (mk S I L R G) Q ↔ S a = some (.inr 9) ∧ XX d 92 146 [v0, v1, v2, v3, v4, v5, v6, v7, v8, v9, v10] (.ref (a + 7) :: st) (mk S I L R G) Q := r_gf i_92_143 rfl (by decide) rfl
theorem q_92_146 : XX d 92 146 [v0, v1, v2, some (.int x), v4, v5, v6, v7, v8, v9, v10] st A Q ↔ XX d 92 147 [v0, v1, v2, some (.int x), v4, v5, v6, v7, v8, v9, v10] (.int x :: st) A Q := c_lcl i_92_146 rfl rfl
theorem q_92_147 : XX d 92 147 [v0, some (.int x), v2, v3, v4, v5, v6, v7, v8, v9, v10] st A Q ↔ XX d 92 148 [v0, some (.int x), v2, v3, v4, v5, v6, v7, v8, v9, v10] (.int x :: st) A Q := c_lcl i_92_147 rfl rfl
theorem q_92_148 : XX d 92 148 [v0, v1, v2, v3, v4, v5, v6, v7, v8, v9, v10] st A Q ↔ XX d 92 149 [v0, v1, v2, v3, v4, v5, v6, v7, v8, v9, v10] (.int (w 0) :: st) A Q := c_stk i_92_148 rfl
theorem q_92_149 : XX d 92 149 [v0, v1, some (.int x), v3, v4, v5, v6, v7, v8, v9, v10] st A Q ↔ XX d 92 150 [v0, v1, some (.int x), v3, v4, v5, v6, v7, v8, v9, v10] (.int x :: st) A Q := c_lcl i_92_149 rfl rfl
theorem q_92_150 : XX d 92 150 [v0, v1, v2, v3, v4, v5, some (.int x), v7, v8, v9, v10] st A Q ↔ XX d 92 152 [v0, v1, v2, v3, v4, v5, some (.int x), v7, v8, v9, v10] (.int x :: st) A Q := c_lcl i_92_150 rfl rfl
theorem q_92_152 : XX (d + 1) 92 152 [v0, v1, v2, v3, v4, v5, v6, v7, v8, v9, v10] [.int x5, .int x4, .int x3, .int x2, .int x1, .ref a0] (mk S I L R G) Q ↔ S a0 = some (.inr 1) ∧ XC d 9 [.ref a0, .int x1, .int x2, .int x3, .int x4, .int x5] (mk S I L R G) (XK (d + 1) 92 152 [v0, v1, v2, v3, v4, v5, v6, v7, v8, v9, v10] [] Q) := c_callV i_92_152 rfl rfl rfl rfl (Nat.le_of_ble_eq_true rfl) (Nat.le_of_ble_eq_true rfl) rfl
theorem q_92_155 : XX d 92 155 [v0, v1, v2, v3, v4, v5, v6, v7, v8, v9, v10] [.int x] A Q ↔ (x = w 0 ∨ x = w 1) ∧ Q (.inl (some (.int x))) A := e_retZ i_92_155 rfl
theorem q_92_156 : XX d 92 156 [some (.ref a), v1, v2, v3, v4, v5, v6, v7, v8, v9, v10] st A Q ↔ XX d 92 157 [some (.ref a), v1, v2, v3, v4, v5, v6, v7, v8, v9, v10] (.ref a :: st) A Q := c_lcl i_92_156 rfl rfl
theorem q_92_157 : XX d 92 157 [v0, v1, v2, v3, v4, v5, v6, v7, v8, v9, some (.int x)] st A Q ↔ XX d 92 159 [v0, v1, v2, v3, v4, v5, v6, v7, v8, v9, some (.int x)] (.int x :: st) A Q := c_lcl i_92_157 rfl rfl
theorem q_92_159 : XX d 92 159 [v0, v1, v2, some (.int x), v4, v5, v6, v7, v8, v9, v10] st A Q ↔ XX d 92 160 [v0, v1, v2, some (.int x), v4, v5, v6, v7, v8, v9, v10] (.int x :: st) A Q := c_lcl i_92_159 rfl rfl
theorem q_92_160 : XX d 92 160 [v0, v1, v2, v3, v4, some (.int x), v6, v7, v8, v9, v10] st A Q ↔ XX d 92 162 [v0, v1, v2, v3, v4, some (.int x), v6, v7, v8, v9, v10] (.int x :: st) A Q := c_lcl i_92_160 rfl rfl
theorem q_92_162 : XX (d + 1) 92 162 [v0, v1, v2, v3, v4, v5, v6, v7, v8, v9, v10] [.int x3, .int x2, .int x1, .ref a0] (mk S I L R G) Q ↔ S a0 = some (.inr 9) ∧ XC d 94 [.ref a0, .int x1, .int x2, .int x3] (mk S I L R G) (XK (d + 1) 92 162 [v0, v1, v2, v3, v4, v5, v6, v7, v8, v9, v10] [] Q) := c_callV i_92_162 rfl rfl rfl rfl (Nat.le_of_ble_eq_true rfl) (Nat.le_of_ble_eq_true rfl) rfl
theorem q_92_165 : XX d 92 165 [v0, v1, v2, v3, v4, v5, v6, v7, some (.int z), v9, v10] (.int x :: st) A Q ↔ XX d 92 167 [v0, v1, v2, v3, v4, v5, v6, v7, some (.int z), some (.int x), v10] st A Q := c_lcl i_92_165 rfl rfl
theorem q_92_167 : XX d 92 167 [v0, v1, v2, v3, v4, v5, v6, v7, v8, some (.int x), v10] st A Q ↔ XX d 92 169 [v0, v1, v2, v3, v4, v5, v6, v7, v8, some (.int x), v10] (.int x :: st) A Q := c_lcl i_92_167 rfl rfl
theorem q_92_169 : XX d 92 169 [v0, v1, v2, v3, v4, v5, v6, v7, v8, v9, v10] (.int x :: st) A Q ↔ if x = w 0 then XX d 92 172 [v0, v1, v2, v3, v4, v5, v6, v7, v8, v9, v10] st A Q else XX d 92 186 [v0, v1, v2, v3, v4, v5, v6, v7, v8, v9, v10] st A Q := z_ne i_92_169 rfl rfl rfl
theorem q_92_172 : XX d 92 172 [some (.ref a), v1, v2, v3, v4, v5, v6, v7, v8, v9, v10] st A Q ↔ XX d 92 173 [some (.ref a), v1, v2, v3, v4, v5, v6, v7, v8, v9, v10] (.ref a :: st) A Q := c_lcl i_92_172 rfl rfl
theorem q_92_173 : XX d 92 173 [v0, v1, v2, v3, v4, v5, v6, v7, v8, v9, v10] (.ref a :: st) (mk S I L R G) Q ↔ S a = some (.inr 9) ∧ XX d 92 176 [v0, v1, v2, v3, v4, v5, v6, v7, v8, v9, v10] (.ref (a + 7) :: st) (mk S I L R G) Q := r_gf i_92_173 rfl (by decide) rfl
theorem q_92_176 : XX d 92 176 [v0, v1, v2, some (.int x), v4, v5, v6, v7, v8, v9, v10] st A Q ↔ XX d 92 177 [v0, v1, v2, some (.int x), v4, v5, v6, v7, v8, v9, v10] (.int x :: st) A Q := c_lcl i_92_176 rfl rfl
theorem q_92_177 : XX d 92 177 [v0, some (.int x), v2, v3, v4, v5, v6, v7, v8, v9, v10] st A Q ↔ XX d 92 178 [v0, some (.int x), v2, v3, v4, v5, v6, v7, v8, v9, v10] (.int x :: st) A Q := c_lcl i_92_177 rfl rfl
theorem q_92_178 : XX d 92 178 [v0, v1, v2, v3, v4, v5, v6, v7, v8, v9, v10] st A Q ↔ XX d 92 179 [v0, v1, v2, v3, v4, v5, v6, v7, v8, v9, v10] (.int (w 5) :: st) A Q := c_stk i_92_178 rfl
theorem q_92_179 : XX d 92 179 [v0, v1, some (.int x), v3, v4, v5, v6, v7, v8, v9, v10] st A Q ↔ XX d 92 180 [v0, v1, some (.int x), v3, v4, v5, v6, v7, v8, v9, v10] (.int x :: st) A Q := c_lcl i_92_179 rfl rfl
theorem q_92_180 : XX d 92 180 [v0, v1, v2, v3, v4, v5, some (.int x), v7, v8, v9, v10] st A Q ↔ XX d 92 182 [v0, v1, v2, v3, v4, v5, some (.int x), v7, v8, v9, v10] (.int x :: st) A Q := c_lcl i_92_180 rfl rfl
theorem q_92_182 : XX (d + 1) 92 182 [v0, v1, v2, v3, v4, v5, v6, v7, v8, v9, v10] [.int x5, .int x4, .int x3, .int x2, .int x1, .ref a0] (mk S I L R G) Q ↔ S a0 = some (.inr 1) ∧ XC d 9 [.ref a0, .int x1, .int x2, .int x3, .int x4, .int x5] (mk S I L R G) (XK (d + 1) 92 182 [v0, v1, v2, v3, v4, v5, v6, v7, v8, v9, v10] [] Q) := c_callV i_92_182 rfl rfl rfl rfl (Nat.le_of_ble_eq_true rfl) (Nat.le_of_ble_eq_true rfl) rfl
theorem q_92_185 : XX d 92 185 [v0, v1, v2, v3, v4, v5, v6, v7, v8, v9, v10] [.int x] A Q ↔ (x = w 0 ∨ x = w 1) ∧ Q (.inl (some (.int x))) A := e_retZ i_92_185 rfl
theorem q_92_186 : XX d 92 186 [some (.ref a), v1, v2, v3, v4, v5, v6, v7, v8, v9, v10] st A Q ↔ XX d 92 187 [some (.ref a), v1, v2, v3, v4, v5, v6, v7, v8, v9, v10] (.ref a :: st) A Q := c_lcl i_92_186 rfl rfl
theorem q_92_187 : XX d 92 187 [v0, v1, v2, v3, v4, v5, v6, v7, v8, v9, v10] (.ref a :: st) (mk S I L R G) Q ↔ S a = some (.inr 9) ∧ XX d 92 190 [v0, v1, v2, v3, v4, v5, v6, v7, v8, v9, v10] (.ref (a + 15) :: st) (mk S I L R G) Q := r_gf i_92_187 rfl (by decide) rfl
theorem q_92_190 : XX d 92 190 [v0, v1, v2, some (.int x), v4, v5, v6, v7, v8, v9, v10] st A Q ↔ XX d 92 191 [v0, v1, v2, some (.int x), v4, v5, v6, v7, v8, v9, v10] (.int x :: st) A Q := c_lcl i_92_190 rfl rfl
theorem q_92_191 : XX d 92 191 [v0, v1, v2, v3, v4, v5, v6, v7, v8, v9, v10] (.int x :: .ref a :: st) (mk S I L R G) Q ↔ inA (S a) ok_i x ∧ XX d 92 192 [v0, v1, v2, v3, v4, v5, v6, v7, v8, v9, v10] (.int (I a (ix x)) :: st) (mk S I L R G) Q := r_ia i_92_191
theorem q_92_192 : XX d 92 192 [v0, v1, v2, v3, v4, v5, v6, v7, some (.int x), v9, v10] st A Q ↔ XX d 92 194 [v0, v1, v2, v3, v4, v5, v6, v7, some (.int x), v9, v10] (.int x :: st) A Q := c_lcl i_92_192 rfl rfl
theorem q_92_194 : XX d 92 194 [v0, v1, v2, v3, v4, v5, v6, v7, v8, v9, v10] (.int y :: .int x :: st) A Q ↔ if y < x then XX d 92 197 [v0, v1, v2, v3, v4, v5, v6, v7, v8, v9, v10] st A Q else XX d 92 200 [v0, v1, v2, v3, v4, v5, v6, v7, v8, v9, v10] st A Q := b_le i_92_194 rfl rfl rfl
theorem q_92_197 : XX d 92 197 [v0, v1, v2, v3, v4, v5, v6, v7, v8, v9, v10] st A Q ↔ XX d 92 198 [v0, v1, v2, v3, v4, v5, v6, v7, v8, v9, v10] (.int (w 0) :: st) A Q := c_stk i_92_197 rfl
theorem q_92_198 : XX d 92 198 [v0, v1, v2, v3, v4, v5, v6, v7, v8, v9, v10] (.int x :: st) A Q ↔ XX d 92 200 [v0, v1, v2, v3, kl v4, some (.int x), v6, v7, v8, v9, v10] st A Q := by (cases hz : x_two v4 <;> (refine c_lcl i_92_198 rfl ?_; simp [x_lcl, x_stI, x_stA, x_put, x_kill, x_get, kl, hz, va_rf]))
theorem q_92_200 : XX d 92 200 [v0, v1, v2, v3, v4, some (.int z), some (.int x), v7, v8, v9, v10] st A Q ↔ XX d 92 203 [v0, v1, v2, v3, v4, some (.int z), some (.int (x + w 1)), v7, v8, v9, v10] st A Q := c_lcl i_92_200 rfl rfl
theorem q_92_203 : XX d 92 203 [v0, v1, v2, v3, v4, v5, v6, v7, v8, v9, v10] st A Q ↔ XX d 92 45 [v0, v1, v2, v3, v4, v5, v6, v7, v8, v9, v10] st A Q := c_go i_92_203 rfl rfl
theorem q_92_206 : XX d 92 206 [v0, v1, v2, v3, v4, v5, v6, v7, v8, v9, v10] st A Q ↔ XX d 92 207 [v0, v1, v2, v3, v4, v5, v6, v7, v8, v9, v10] (.int (w 1) :: st) A Q := c_stk i_92_206 rfl
theorem q_92_207 : XX d 92 207 [v0, v1, v2, v3, v4, v5, v6, v7, v8, v9, v10] [.int x] A Q ↔ (x = w 0 ∨ x = w 1) ∧ Q (.inl (some (.int x))) A := e_retZ i_92_207 rfl
theorem q_92_e : XC d 92 [.ref a0, .int x1, .int x2, .int x3] A Q ↔ XX d 92 0 [some (.ref a0), some (.int x1), some (.int x2), some (.int x3), none, none, none, none, none, none, none] [] A Q := Iff.rfl
theorem i_93_0 : t_ins 93 0 = some (.aload_n 1) := by decide +kernel
theorem i_93_1 : t_ins 93 1 = some (.iload_n 2) := by decide +kernel
theorem i_93_2 : t_ins 93 2 = some (.invokevirtual 152) := by decide +kernel
theorem i_93_5 : t_ins 93 5 = some (.istore 5) := by decide +kernel
theorem i_93_7 : t_ins 93 7 = some (.aload_n 0) := by decide +kernel
theorem i_93_8 : t_ins 93 8 = some (.iload 5) := by decide +kernel
theorem i_93_10 : t_ins 93 10 = some (.iload_n 3) := by decide +kernel
theorem i_93_11 : t_ins 93 11 = some (.iload 4) := by decide +kernel
theorem i_93_13 : t_ins 93 13 = some (.invokevirtual 155) := by decide +kernel
theorem i_93_16 : t_ins 93 16 = some (.ifCond .ne 5) := by decide +kernel
theorem i_93_19 : t_ins 93 19 = some (.iconst 0) := by decide +kernel
theorem i_93_20 : t_ins 93 20 = some (.ireturn) := by decide +kernel
theorem i_93_21 : t_ins 93 21 = some (.iload_n 3) := by decide +kernel
theorem i_93_22 : t_ins 93 22 = some (.bipush 100) := by decide +kernel
theorem i_93_24 : t_ins 93 24 = some (.imul) := by decide +kernel
theorem i_93_25 : t_ins 93 25 = some (.aload_n 0) := by decide +kernel
theorem i_93_26 : t_ins 93 26 = some (.getfield 46) := by decide +kernel
theorem i_93_29 : t_ins 93 29 = some (.iload_n 3) := by decide +kernel
theorem i_93_30 : t_ins 93 30 = some (.iaload) := by decide +kernel
theorem i_93_31 : t_ins 93 31 = some (.iadd) := by decide +kernel
theorem i_93_32 : t_ins 93 32 = some (.istore 6) := by decide +kernel
theorem i_93_34 : t_ins 93 34 = some (.iconst 0) := by decide +kernel
theorem i_93_35 : t_ins 93 35 = some (.istore 7) := by decide +kernel
theorem i_93_37 : t_ins 93 37 = some (.iload 7) := by decide +kernel
theorem i_93_39 : t_ins 93 39 = some (.iload 5) := by decide +kernel
theorem i_93_41 : t_ins 93 41 = some (.if_icmp .ge 40) := by decide +kernel
theorem i_93_44 : t_ins 93 44 = some (.iload 6) := by decide +kernel
theorem i_93_46 : t_ins 93 46 = some (.iload 7) := by decide +kernel
theorem i_93_48 : t_ins 93 48 = some (.iadd) := by decide +kernel
theorem i_93_49 : t_ins 93 49 = some (.aload_n 0) := by decide +kernel
theorem i_93_50 : t_ins 93 50 = some (.getfield 42) := by decide +kernel
theorem i_93_53 : t_ins 93 53 = some (.arraylength) := by decide +kernel
theorem i_93_54 : t_ins 93 54 = some (.if_icmp .ge 27) := by decide +kernel
theorem i_93_57 : t_ins 93 57 = some (.aload_n 0) := by decide +kernel
theorem i_93_58 : t_ins 93 58 = some (.getfield 42) := by decide +kernel
theorem i_93_61 : t_ins 93 61 = some (.iload 6) := by decide +kernel
theorem i_93_63 : t_ins 93 63 = some (.iload 7) := by decide +kernel
theorem i_93_65 : t_ins 93 65 = some (.iadd) := by decide +kernel
theorem i_93_66 : t_ins 93 66 = some (.aload_n 1) := by decide +kernel
theorem i_93_67 : t_ins 93 67 = some (.iload_n 2) := by decide +kernel
theorem i_93_68 : t_ins 93 68 = some (.iload 7) := by decide +kernel
theorem i_93_70 : t_ins 93 70 = some (.invokevirtual 158) := by decide +kernel
theorem i_93_73 : t_ins 93 73 = some (.i2b) := by decide +kernel
theorem i_93_74 : t_ins 93 74 = some (.bastore) := by decide +kernel
theorem i_93_75 : t_ins 93 75 = some (.iinc 7 1) := by decide +kernel
theorem i_93_78 : t_ins 93 78 = some (.goto (-41)) := by decide +kernel
theorem i_93_81 : t_ins 93 81 = some (.aload_n 0) := by decide +kernel
theorem i_93_82 : t_ins 93 82 = some (.getfield 46) := by decide +kernel
theorem i_93_85 : t_ins 93 85 = some (.iload_n 3) := by decide +kernel
theorem i_93_86 : t_ins 93 86 = some (.dup2) := by decide +kernel
theorem i_93_87 : t_ins 93 87 = some (.iaload) := by decide +kernel
theorem i_93_88 : t_ins 93 88 = some (.iload 5) := by decide +kernel
theorem i_93_90 : t_ins 93 90 = some (.iadd) := by decide +kernel
theorem i_93_91 : t_ins 93 91 = some (.iastore) := by decide +kernel
theorem i_93_92 : t_ins 93 92 = some (.iconst 1) := by decide +kernel
theorem i_93_93 : t_ins 93 93 = some (.ireturn) := by decide +kernel
theorem q_93_0 : XX d 93 0 [v0, some (.ref a), v2, v3, v4, v5, v6, v7] st A Q ↔ XX d 93 1 [v0, some (.ref a), v2, v3, v4, v5, v6, v7] (.ref a :: st) A Q := c_lcl i_93_0 rfl rfl
theorem q_93_1 : XX d 93 1 [v0, v1, some (.int x), v3, v4, v5, v6, v7] st A Q ↔ XX d 93 2 [v0, v1, some (.int x), v3, v4, v5, v6, v7] (.int x :: st) A Q := c_lcl i_93_1 rfl rfl
theorem q_93_2 : XX (d + 1) 93 2 [v0, v1, v2, v3, v4, v5, v6, v7] [.int x1, .ref a0] (mk S I L R G) Q ↔ S a0 = some (.inr 6) ∧ XC d 58 [.ref a0, .int x1] (mk S I L R G) (XK (d + 1) 93 2 [v0, v1, v2, v3, v4, v5, v6, v7] [] Q) := c_callV i_93_2 rfl rfl rfl rfl (Nat.le_of_ble_eq_true rfl) (Nat.le_of_ble_eq_true rfl) rfl
theorem q_93_5 : XX d 93 5 [v0, v1, v2, v3, some (.int z), v5, v6, v7] (.int x :: st) A Q ↔ XX d 93 7 [v0, v1, v2, v3, some (.int z), some (.int x), v6, v7] st A Q := c_lcl i_93_5 rfl rfl
theorem q_93_7 : XX d 93 7 [some (.ref a), v1, v2, v3, v4, v5, v6, v7] st A Q ↔ XX d 93 8 [some (.ref a), v1, v2, v3, v4, v5, v6, v7] (.ref a :: st) A Q := c_lcl i_93_7 rfl rfl
theorem q_93_8 : XX d 93 8 [v0, v1, v2, v3, v4, some (.int x), v6, v7] st A Q ↔ XX d 93 10 [v0, v1, v2, v3, v4, some (.int x), v6, v7] (.int x :: st) A Q := c_lcl i_93_8 rfl rfl
theorem q_93_10 : XX d 93 10 [v0, v1, v2, some (.int x), v4, v5, v6, v7] st A Q ↔ XX d 93 11 [v0, v1, v2, some (.int x), v4, v5, v6, v7] (.int x :: st) A Q := c_lcl i_93_10 rfl rfl
theorem q_93_11 : XX d 93 11 [v0, v1, v2, v3, some (.int x), v5, v6, v7] st A Q ↔ XX d 93 13 [v0, v1, v2, v3, some (.int x), v5, v6, v7] (.int x :: st) A Q := c_lcl i_93_11 rfl rfl
theorem q_93_13 : XX (d + 1) 93 13 [v0, v1, v2, v3, v4, v5, v6, v7] [.int x3, .int x2, .int x1, .ref a0] (mk S I L R G) Q ↔ S a0 = some (.inr 9) ∧ XC d 95 [.ref a0, .int x1, .int x2, .int x3] (mk S I L R G) (XK (d + 1) 93 13 [v0, v1, v2, v3, v4, v5, v6, v7] [] Q) := c_callV i_93_13 rfl rfl rfl rfl (Nat.le_of_ble_eq_true rfl) (Nat.le_of_ble_eq_true rfl) rfl
theorem q_93_16 : XX d 93 16 [v0, v1, v2, v3, v4, v5, v6, v7] (.int x :: st) A Q ↔ if x = w 0 then XX d 93 19 [v0, v1, v2, v3, v4, v5, v6, v7] st A Q else XX d 93 21 [v0, v1, v2, v3, v4, v5, v6, v7] st A Q := z_ne i_93_16 rfl rfl rfl
theorem q_93_19 : XX d 93 19 [v0, v1, v2, v3, v4, v5, v6, v7] st A Q ↔ XX d 93 20 [v0, v1, v2, v3, v4, v5, v6, v7] (.int (w 0) :: st) A Q := c_stk i_93_19 rfl
theorem q_93_20 : XX d 93 20 [v0, v1, v2, v3, v4, v5, v6, v7] [.int x] A Q ↔ (x = w 0 ∨ x = w 1) ∧ Q (.inl (some (.int x))) A := e_retZ i_93_20 rfl
theorem q_93_21 : XX d 93 21 [v0, v1, v2, some (.int x), v4, v5, v6, v7] st A Q ↔ XX d 93 22 [v0, v1, v2, some (.int x), v4, v5, v6, v7] (.int x :: st) A Q := c_lcl i_93_21 rfl rfl
theorem q_93_22 : XX d 93 22 [v0, v1, v2, v3, v4, v5, v6, v7] st A Q ↔ XX d 93 24 [v0, v1, v2, v3, v4, v5, v6, v7] (.int (w 100) :: st) A Q := c_stk i_93_22 rfl
theorem q_93_24 : XX d 93 24 [v0, v1, v2, v3, v4, v5, v6, v7] (.int y :: .int x :: st) A Q ↔ XX d 93 25 [v0, v1, v2, v3, v4, v5, v6, v7] (.int (x * y) :: st) A Q := c_stk i_93_24 rfl
theorem q_93_25 : XX d 93 25 [some (.ref a), v1, v2, v3, v4, v5, v6, v7] st A Q ↔ XX d 93 26 [some (.ref a), v1, v2, v3, v4, v5, v6, v7] (.ref a :: st) A Q := c_lcl i_93_25 rfl rfl
theorem q_93_26 : XX d 93 26 [v0, v1, v2, v3, v4, v5, v6, v7] (.ref a :: st) (mk S I L R G) Q ↔ S a = some (.inr 9) ∧ XX d 93 29 [v0, v1, v2, v3, v4, v5, v6, v7] (.ref (a + 15) :: st) (mk S I L R G) Q := r_gf i_93_26 rfl (by decide) rfl
theorem q_93_29 : XX d 93 29 [v0, v1, v2, some (.int x), v4, v5, v6, v7] st A Q ↔ XX d 93 30 [v0, v1, v2, some (.int x), v4, v5, v6, v7] (.int x :: st) A Q := c_lcl i_93_29 rfl rfl
theorem q_93_30 : XX d 93 30 [v0, v1, v2, v3, v4, v5, v6, v7] (.int x :: .ref a :: st) (mk S I L R G) Q ↔ inA (S a) ok_i x ∧ XX d 93 31 [v0, v1, v2, v3, v4, v5, v6, v7] (.int (I a (ix x)) :: st) (mk S I L R G) Q := r_ia i_93_30
theorem q_93_31 : XX d 93 31 [v0, v1, v2, v3, v4, v5, v6, v7] (.int y :: .int x :: st) A Q ↔ XX d 93 32 [v0, v1, v2, v3, v4, v5, v6, v7] (.int (x + y) :: st) A Q := c_stk i_93_31 rfl
theorem q_93_32 : XX d 93 32 [v0, v1, v2, v3, v4, some (.int z), v6, v7] (.int x :: st) A Q ↔ XX d 93 34 [v0, v1, v2, v3, v4, some (.int z), some (.int x), v7] st A Q := c_lcl i_93_32 rfl rfl
theorem q_93_34 : XX d 93 34 [v0, v1, v2, v3, v4, v5, v6, v7] st A Q ↔ XX d 93 35 [v0, v1, v2, v3, v4, v5, v6, v7] (.int (w 0) :: st) A Q := c_stk i_93_34 rfl
theorem q_93_35 : XX d 93 35 [v0, v1, v2, v3, v4, v5, some (.int z), v7] (.int x :: st) A Q ↔ XX d 93 37 [v0, v1, v2, v3, v4, v5, some (.int z), some (.int x)] st A Q := c_lcl i_93_35 rfl rfl
theorem q_93_37 : XX d 93 37 [v0, v1, v2, v3, v4, v5, v6, some (.int x)] st A Q ↔ XX d 93 39 [v0, v1, v2, v3, v4, v5, v6, some (.int x)] (.int x :: st) A Q := c_lcl i_93_37 rfl rfl
theorem q_93_39 : XX d 93 39 [v0, v1, v2, v3, v4, some (.int x), v6, v7] st A Q ↔ XX d 93 41 [v0, v1, v2, v3, v4, some (.int x), v6, v7] (.int x :: st) A Q := c_lcl i_93_39 rfl rfl
theorem q_93_41 : XX d 93 41 [v0, v1, v2, v3, v4, v5, v6, v7] (.int y :: .int x :: st) A Q ↔ if x < y then XX d 93 44 [v0, v1, v2, v3, v4, v5, v6, v7] st A Q else XX d 93 81 [v0, v1, v2, v3, v4, v5, v6, v7] st A Q := b_ge i_93_41 rfl rfl rfl
theorem q_93_44 : XX d 93 44 [v0, v1, v2, v3, v4, v5, some (.int x), v7] st A Q ↔ XX d 93 46 [v0, v1, v2, v3, v4, v5, some (.int x), v7] (.int x :: st) A Q := c_lcl i_93_44 rfl rfl
theorem q_93_46 : XX d 93 46 [v0, v1, v2, v3, v4, v5, v6, some (.int x)] st A Q ↔ XX d 93 48 [v0, v1, v2, v3, v4, v5, v6, some (.int x)] (.int x :: st) A Q := c_lcl i_93_46 rfl rfl
theorem q_93_48 : XX d 93 48 [v0, v1, v2, v3, v4, v5, v6, v7] (.int y :: .int x :: st) A Q ↔ XX d 93 49 [v0, v1, v2, v3, v4, v5, v6, v7] (.int (x + y) :: st) A Q := c_stk i_93_48 rfl
theorem q_93_49 : XX d 93 49 [some (.ref a), v1, v2, v3, v4, v5, v6, v7] st A Q ↔ XX d 93 50 [some (.ref a), v1, v2, v3, v4, v5, v6, v7] (.ref a :: st) A Q := c_lcl i_93_49 rfl rfl
theorem q_93_50 : XX d 93 50 [v0, v1, v2, v3, v4, v5, v6, v7] (.ref a :: st) (mk S I L R G) Q ↔ S a = some (.inr 9) ∧ XX d 93 53 [v0, v1, v2, v3, v4, v5, v6, v7] (.ref (a + 14) :: st) (mk S I L R G) Q := r_gf i_93_50 rfl (by decide) rfl
theorem q_93_53 : XX d 93 53 [v0, v1, v2, v3, v4, v5, v6, v7] (.ref a :: st) (mk S I L R G) Q ↔ alP (S a) (fun n => XX d 93 54 [v0, v1, v2, v3, v4, v5, v6, v7] (.int n :: st) (mk S I L R G) Q) := r_al i_93_53
theorem q_93_54 : XX d 93 54 [v0, v1, v2, v3, v4, v5, v6, v7] (.int y :: .int x :: st) A Q ↔ if x < y then XX d 93 57 [v0, v1, v2, v3, v4, v5, v6, v7] st A Q else XX d 93 81 [v0, v1, v2, v3, v4, v5, v6, v7] st A Q := b_ge i_93_54 rfl rfl rfl
theorem q_93_57 : XX d 93 57 [some (.ref a), v1, v2, v3, v4, v5, v6, v7] st A Q ↔ XX d 93 58 [some (.ref a), v1, v2, v3, v4, v5, v6, v7] (.ref a :: st) A Q := c_lcl i_93_57 rfl rfl
theorem q_93_58 : XX d 93 58 [v0, v1, v2, v3, v4, v5, v6, v7] (.ref a :: st) (mk S I L R G) Q ↔ S a = some (.inr 9) ∧ XX d 93 61 [v0, v1, v2, v3, v4, v5, v6, v7] (.ref (a + 14) :: st) (mk S I L R G) Q := r_gf i_93_58 rfl (by decide) rfl
theorem q_93_61 : XX d 93 61 [v0, v1, v2, v3, v4, v5, some (.int x), v7] st A Q ↔ XX d 93 63 [v0, v1, v2, v3, v4, v5, some (.int x), v7] (.int x :: st) A Q := c_lcl i_93_61 rfl rfl
theorem q_93_63 : XX d 93 63 [v0, v1, v2, v3, v4, v5, v6, some (.int x)] st A Q ↔ XX d 93 65 [v0, v1, v2, v3, v4, v5, v6, some (.int x)] (.int x :: st) A Q := c_lcl i_93_63 rfl rfl
theorem q_93_65 : XX d 93 65 [v0, v1, v2, v3, v4, v5, v6, v7] (.int y :: .int x :: st) A Q ↔ XX d 93 66 [v0, v1, v2, v3, v4, v5, v6, v7] (.int (x + y) :: st) A Q := c_stk i_93_65 rfl
theorem q_93_66 : XX d 93 66 [v0, some (.ref a), v2, v3, v4, v5, v6, v7] st A Q ↔ XX d 93 67 [v0, some (.ref a), v2, v3, v4, v5, v6, v7] (.ref a :: st) A Q := c_lcl i_93_66 rfl rfl
theorem q_93_67 : XX d 93 67 [v0, v1, some (.int x), v3, v4, v5, v6, v7] st A Q ↔ XX d 93 68 [v0, v1, some (.int x), v3, v4, v5, v6, v7] (.int x :: st) A Q := c_lcl i_93_67 rfl rfl
theorem q_93_68 : XX d 93 68 [v0, v1, v2, v3, v4, v5, v6, some (.int x)] st A Q ↔ XX d 93 70 [v0, v1, v2, v3, v4, v5, v6, some (.int x)] (.int x :: st) A Q := c_lcl i_93_68 rfl rfl
theorem q_93_70 : XX (d + 1) 93 70 [v0, v1, v2, v3, v4, v5, v6, v7] [.int x2, .int x1, .ref a0, .int x3, .ref a4] (mk S I L R G) Q ↔ S a0 = some (.inr 6) ∧ XC d 59 [.ref a0, .int x1, .int x2] (mk S I L R G) (XK (d + 1) 93 70 [v0, v1, v2, v3, v4, v5, v6, v7] [.int x3, .ref a4] Q) := c_callV i_93_70 rfl rfl rfl rfl (Nat.le_of_ble_eq_true rfl) (Nat.le_of_ble_eq_true rfl) rfl
theorem q_93_73 : XX d 93 73 [v0, v1, v2, v3, v4, v5, v6, v7] (.int x :: st) A Q ↔ XX d 93 74 [v0, v1, v2, v3, v4, v5, v6, v7] (.int x.toInt8.toInt32 :: st) A Q := c_stk i_93_73 rfl
theorem q_93_74 : XX d 93 74 [v0, v1, v2, v3, v4, v5, v6, v7] (.int y :: .int x :: .ref a :: st) (mk S I L R G) Q ↔ bsP (S a) x y (fun y => XX d 93 75 [v0, v1, v2, v3, v4, v5, v6, v7] st (mk S (wr I a (up (I a) (ix x) y)) L R G) Q) := r_bas i_93_74
theorem q_93_75 : XX d 93 75 [v0, v1, v2, v3, v4, v5, some (.int z), some (.int x)] st A Q ↔ XX d 93 78 [v0, v1, v2, v3, v4, v5, some (.int z), some (.int (x + w 1))] st A Q := c_lcl i_93_75 rfl rfl
theorem q_93_78 : XX d 93 78 [v0, v1, v2, v3, v4, v5, v6, v7] st A Q ↔ XX d 93 37 [v0, v1, v2, v3, v4, v5, v6, v7] st A Q := c_go i_93_78 rfl rfl
theorem q_93_81 : XX d 93 81 [some (.ref a), v1, v2, v3, v4, v5, v6, v7] st A Q ↔ XX d 93 82 [some (.ref a), v1, v2, v3, v4, v5, v6, v7] (.ref a :: st) A Q := c_lcl i_93_81 rfl rfl
theorem q_93_82 : XX d 93 82 [v0, v1, v2, v3, v4, v5, v6, v7] (.ref a :: st) (mk S I L R G) Q ↔ S a = some (.inr 9) ∧ XX d 93 85 [v0, v1, v2, v3, v4, v5, v6, v7] (.ref (a + 15) :: st) (mk S I L R G) Q := r_gf i_93_82 rfl (by decide) rfl
theorem q_93_85 : XX d 93 85 [v0, v1, v2, some (.int x), v4, v5, v6, v7] st A Q ↔ XX d 93 86 [v0, v1, v2, some (.int x), v4, v5, v6, v7] (.int x :: st) A Q := c_lcl i_93_85 rfl rfl
theorem q_93_86 : XX d 93 86 [v0, v1, v2, v3, v4, v5, v6, v7] (.int x1 :: .ref a2 :: st) A Q ↔ XX d 93 87 [v0, v1, v2, v3, v4, v5, v6, v7] (.int x1 :: .ref a2 :: .int x1 :: .ref a2 :: st) A Q := c_stk i_93_86 rfl
theorem q_93_87 : XX d 93 87 [v0, v1, v2, v3, v4, v5, v6, v7] (.int x :: .ref a :: st) (mk S I L R G) Q ↔ inA (S a) ok_i x ∧ XX d 93 88 [v0, v1, v2, v3, v4, v5, v6, v7] (.int (I a (ix x)) :: st) (mk S I L R G) Q := r_ia i_93_87
theorem q_93_88 : XX d 93 88 [v0, v1, v2, v3, v4, some (.int x), v6, v7] st A Q ↔ XX d 93 90 [v0, v1, v2, v3, v4, some (.int x), v6, v7] (.int x :: st) A Q := c_lcl i_93_88 rfl rfl
theorem q_93_90 : XX d 93 90 [v0, v1, v2, v3, v4, v5, v6, v7] (.int y :: .int x :: st) A Q ↔ XX d 93 91 [v0, v1, v2, v3, v4, v5, v6, v7] (.int (x + y) :: st) A Q := c_stk i_93_90 rfl
theorem q_93_91 : XX d 93 91 [v0, v1, v2, v3, v4, v5, v6, v7] (.int y :: .int x :: .ref a :: st) (mk S I L R G) Q ↔ inA (S a) ok_0 x ∧ XX d 93 92 [v0, v1, v2, v3, v4, v5, v6, v7] st (mk S (wr I a (up (I a) (ix x) y)) L R G) Q := r_ias i_93_91
theorem q_93_92 : XX d 93 92 [v0, v1, v2, v3, v4, v5, v6, v7] st A Q ↔ XX d 93 93 [v0, v1, v2, v3, v4, v5, v6, v7] (.int (w 1) :: st) A Q := c_stk i_93_92 rfl
theorem q_93_93 : XX d 93 93 [v0, v1, v2, v3, v4, v5, v6, v7] [.int x] A Q ↔ (x = w 0 ∨ x = w 1) ∧ Q (.inl (some (.int x))) A := e_retZ i_93_93 rfl
theorem q_93_e : XC d 93 [.ref a0, .ref a1, .int x2, .int x3, .int x4] A Q ↔ XX d 93 0 [some (.ref a0), some (.ref a1), some (.int x2), some (.int x3), some (.int x4), none, none, none] [] A Q := Iff.rfl
theorem i_94_0 : t_ins 94 0 = some (.aload_n 0) := by decide +kernel
theorem i_94_1 : t_ins 94 1 = some (.getfield 12) := by decide +kernel
theorem i_94_4 : t_ins 94 4 = some (.iload_n 1) := by decide +kernel
theorem i_94_5 : t_ins 94 5 = some (.invokevirtual 126) := by decide +kernel
theorem i_94_8 : t_ins 94 8 = some (.istore 4) := by decide +kernel
theorem i_94_10 : t_ins 94 10 = some (.aload_n 0) := by decide +kernel
theorem i_94_11 : t_ins 94 11 = some (.getfield 49) := by decide +kernel
theorem i_94_14 : t_ins 94 14 = some (.iload_n 2) := by decide +kernel
theorem i_94_15 : t_ins 94 15 = some (.aload_n 0) := by decide +kernel
theorem i_94_16 : t_ins 94 16 = some (.getfield 49) := by decide +kernel
theorem i_94_19 : t_ins 94 19 = some (.iload_n 2) := by decide +kernel
theorem i_94_20 : t_ins 94 20 = some (.iaload) := by decide +kernel
theorem i_94_21 : t_ins 94 21 = some (.iconst 1) := by decide +kernel
theorem i_94_22 : t_ins 94 22 = some (.aload_n 0) := by decide +kernel
theorem i_94_23 : t_ins 94 23 = some (.getfield 12) := by decide +kernel
theorem i_94_26 : t_ins 94 26 = some (.getfield 129) := by decide +kernel
theorem i_94_29 : t_ins 94 29 = some (.iload 4) := by decide +kernel
theorem i_94_31 : t_ins 94 31 = some (.iaload) := by decide +kernel
theorem i_94_32 : t_ins 94 32 = some (.iadd) := by decide +kernel
theorem i_94_33 : t_ins 94 33 = some (.invokestatic 161) := by decide +kernel
theorem i_94_36 : t_ins 94 36 = some (.iastore) := by decide +kernel
theorem i_94_37 : t_ins 94 37 = some (.aload_n 0) := by decide +kernel
theorem i_94_38 : t_ins 94 38 = some (.getfield 12) := by decide +kernel
theorem i_94_41 : t_ins 94 41 = some (.getfield 166) := by decide +kernel
theorem i_94_44 : t_ins 94 44 = some (.iload 4) := by decide +kernel
theorem i_94_46 : t_ins 94 46 = some (.iaload) := by decide +kernel
theorem i_94_47 : t_ins 94 47 = some (.istore 5) := by decide +kernel
theorem i_94_49 : t_ins 94 49 = some (.iload 5) := by decide +kernel
theorem i_94_51 : t_ins 94 51 = some (.ifCond .gt 5) := by decide +kernel
theorem i_94_54 : t_ins 94 54 = some (.iconst 1) := by decide +kernel
theorem i_94_55 : t_ins 94 55 = some (.ireturn) := by decide +kernel
theorem i_94_56 : t_ins 94 56 = some (.aload_n 0) := by decide +kernel
theorem i_94_57 : t_ins 94 57 = some (.iload 5) := by decide +kernel
theorem i_94_59 : t_ins 94 59 = some (.iload_n 2) := by decide +kernel
theorem i_94_60 : t_ins 94 60 = some (.iload_n 3) := by decide +kernel
theorem i_94_61 : t_ins 94 61 = some (.invokevirtual 155) := by decide +kernel
theorem i_94_64 : t_ins 94 64 = some (.ifCond .ne 5) := by decide +kernel
theorem i_94_67 : t_ins 94 67 = some (.iconst 0) := by decide +kernel
theorem i_94_68 : t_ins 94 68 = some (.ireturn) := by decide +kernel
theorem i_94_69 : t_ins 94 69 = some (.aload_n 0) := by decide +kernel
theorem i_94_70 : t_ins 94 70 = some (.getfield 12) := by decide +kernel
theorem i_94_73 : t_ins 94 73 = some (.getfield 167) := by decide +kernel
theorem i_94_76 : t_ins 94 76 = some (.iload 4) := by decide +kernel
theorem i_94_78 : t_ins 94 78 = some (.bipush 100) := by decide +kernel
theorem i_94_80 : t_ins 94 80 = some (.imul) := by decide +kernel
theorem i_94_81 : t_ins 94 81 = some (.aload_n 0) := by decide +kernel
theorem i_94_82 : t_ins 94 82 = some (.getfield 42) := by decide +kernel
theorem i_94_85 : t_ins 94 85 = some (.iload_n 2) := by decide +kernel
theorem i_94_86 : t_ins 94 86 = some (.bipush 100) := by decide +kernel
theorem i_94_88 : t_ins 94 88 = some (.imul) := by decide +kernel
theorem i_94_89 : t_ins 94 89 = some (.aload_n 0) := by decide +kernel
theorem i_94_90 : t_ins 94 90 = some (.getfield 46) := by decide +kernel
theorem i_94_93 : t_ins 94 93 = some (.iload_n 2) := by decide +kernel
theorem i_94_94 : t_ins 94 94 = some (.iaload) := by decide +kernel
theorem i_94_95 : t_ins 94 95 = some (.iadd) := by decide +kernel
theorem i_94_96 : t_ins 94 96 = some (.iload 5) := by decide +kernel
theorem i_94_98 : t_ins 94 98 = some (.invokestatic 170) := by decide +kernel
theorem i_94_101 : t_ins 94 101 = some (.aload_n 0) := by decide +kernel
theorem i_94_102 : t_ins 94 102 = some (.getfield 46) := by decide +kernel
theorem i_94_105 : t_ins 94 105 = some (.iload_n 2) := by decide +kernel
theorem i_94_106 : t_ins 94 106 = some (.dup2) := by decide +kernel
theorem i_94_107 : t_ins 94 107 = some (.iaload) := by decide +kernel
theorem i_94_108 : t_ins 94 108 = some (.iload 5) := by decide +kernel
theorem i_94_110 : t_ins 94 110 = some (.iadd) := by decide +kernel
theorem i_94_111 : t_ins 94 111 = some (.iastore) := by decide +kernel
theorem i_94_112 : t_ins 94 112 = some (.iconst 1) := by decide +kernel
theorem i_94_113 : t_ins 94 113 = some (.ireturn) := by decide +kernel
theorem q_94_0 : XX d 94 0 [some (.ref a), v1, v2, v3, v4, v5] st A Q ↔ XX d 94 1 [some (.ref a), v1, v2, v3, v4, v5] (.ref a :: st) A Q := c_lcl i_94_0 rfl rfl
theorem q_94_1 : XX d 94 1 [v0, v1, v2, v3, v4, v5] (.ref a :: st) (mk S I L R G) Q ↔ S a = some (.inr 9) ∧ XX d 94 4 [v0, v1, v2, v3, v4, v5] (.ref (a + 1) :: st) (mk S I L R G) Q := r_gf i_94_1 rfl (by decide) rfl
theorem q_94_4 : XX d 94 4 [v0, some (.int x), v2, v3, v4, v5] st A Q ↔ XX d 94 5 [v0, some (.int x), v2, v3, v4, v5] (.int x :: st) A Q := c_lcl i_94_4 rfl rfl
theorem q_94_5 : XX (d + 1) 94 5 [v0, v1, v2, v3, v4, v5] [.int x1, .ref a0] (mk S I L R G) Q ↔ S a0 = some (.inr 4) ∧ XC d 27 [.ref a0, .int x1] (mk S I L R G) (XK (d + 1) 94 5 [v0, v1, v2, v3, v4, v5] [] Q) := c_callV i_94_5 rfl rfl rfl rfl (Nat.le_of_ble_eq_true rfl) (Nat.le_of_ble_eq_true rfl) rfl
theorem q_94_8 : XX d 94 8 [v0, v1, v2, some (.int z), v4, v5] (.int x :: st) A Q ↔ XX d 94 10 [v0, v1, v2, some (.int z), some (.int x), v5] st A Q := c_lcl i_94_8 rfl rfl
theorem q_94_10 : XX d 94 10 [some (.ref a), v1, v2, v3, v4, v5] st A Q ↔ XX d 94 11 [some (.ref a), v1, v2, v3, v4, v5] (.ref a :: st) A Q := c_lcl i_94_10 rfl rfl
theorem q_94_11 : XX d 94 11 [v0, v1, v2, v3, v4, v5] (.ref a :: st) (mk S I L R G) Q ↔ S a = some (.inr 9) ∧ XX d 94 14 [v0, v1, v2, v3, v4, v5] (.ref (a + 16) :: st) (mk S I L R G) Q := r_gf i_94_11 rfl (by decide) rfl
theorem q_94_14 : XX d 94 14 [v0, v1, some (.int x), v3, v4, v5] st A Q ↔ XX d 94 15 [v0, v1, some (.int x), v3, v4, v5] (.int x :: st) A Q := c_lcl i_94_14 rfl rfl
theorem q_94_15 : XX d 94 15 [some (.ref a), v1, v2, v3, v4, v5] st A Q ↔ XX d 94 16 [some (.ref a), v1, v2, v3, v4, v5] (.ref a :: st) A Q := c_lcl i_94_15 rfl rfl
theorem q_94_16 : XX d 94 16 [v0, v1, v2, v3, v4, v5] (.ref a :: st) (mk S I L R G) Q ↔ S a = some (.inr 9) ∧ XX d 94 19 [v0, v1, v2, v3, v4, v5] (.ref (a + 16) :: st) (mk S I L R G) Q := r_gf i_94_16 rfl (by decide) rfl
theorem q_94_19 : XX d 94 19 [v0, v1, some (.int x), v3, v4, v5] st A Q ↔ XX d 94 20 [v0, v1, some (.int x), v3, v4, v5] (.int x :: st) A Q := c_lcl i_94_19 rfl rfl
theorem q_94_20 : XX d 94 20 [v0, v1, v2, v3, v4, v5] (.int x :: .ref a :: st) (mk S I L R G) Q ↔ inA (S a) ok_i x ∧ XX d 94 21 [v0, v1, v2, v3, v4, v5] (.int (I a (ix x)) :: st) (mk S I L R G) Q := r_ia i_94_20
theorem q_94_21 : XX d 94 21 [v0, v1, v2, v3, v4, v5] st A Q ↔ XX d 94 22 [v0, v1, v2, v3, v4, v5] (.int (w 1) :: st) A Q := c_stk i_94_21 rfl
theorem q_94_22 : XX d 94 22 [some (.ref a), v1, v2, v3, v4, v5] st A Q ↔ XX d 94 23 [some (.ref a), v1, v2, v3, v4, v5] (.ref a :: st) A Q := c_lcl i_94_22 rfl rfl
theorem q_94_23 : XX d 94 23 [v0, v1, v2, v3, v4, v5] (.ref a :: st) (mk S I L R G) Q ↔ S a = some (.inr 9) ∧ XX d 94 26 [v0, v1, v2, v3, v4, v5] (.ref (a + 1) :: st) (mk S I L R G) Q := r_gf i_94_23 rfl (by decide) rfl
theorem q_94_26 : XX d 94 26 [v0, v1, v2, v3, v4, v5] (.ref a :: st) (mk S I L R G) Q ↔ S a = some (.inr 4) ∧ XX d 94 29 [v0, v1, v2, v3, v4, v5] (.ref (a + 5) :: st) (mk S I L R G) Q := r_gf i_94_26 rfl (by decide) rfl
theorem q_94_29 : XX d 94 29 [v0, v1, v2, v3, some (.int x), v5] st A Q ↔ XX d 94 31 [v0, v1, v2, v3, some (.int x), v5] (.int x :: st) A Q := c_lcl i_94_29 rfl rfl
theorem q_94_31 : XX d 94 31 [v0, v1, v2, v3, v4, v5] (.int x :: .ref a :: st) (mk S I L R G) Q ↔ inA (S a) ok_i x ∧ XX d 94 32 [v0, v1, v2, v3, v4, v5] (.int (I a (ix x)) :: st) (mk S I L R G) Q := r_ia i_94_31
theorem q_94_32 : XX d 94 32 [v0, v1, v2, v3, v4, v5] (.int y :: .int x :: st) A Q ↔ XX d 94 33 [v0, v1, v2, v3, v4, v5] (.int (x + y) :: st) A Q := c_stk i_94_32 rfl
theorem q_94_33 : XX d 94 33 [v0, v1, v2, v3, v4, v5] [.int y, .int x, .int x0, .ref a1] A Q ↔ XX d 94 36 [v0, v1, v2, v3, v4, v5] [.int (if x < y then y else x), .int x0, .ref a1] A Q := r_max i_94_33 rfl rfl (Nat.le_of_ble_eq_true rfl)
theorem q_94_36 : XX d 94 36 [v0, v1, v2, v3, v4, v5] (.int y :: .int x :: .ref a :: st) (mk S I L R G) Q ↔ inA (S a) ok_0 x ∧ XX d 94 37 [v0, v1, v2, v3, v4, v5] st (mk S (wr I a (up (I a) (ix x) y)) L R G) Q := r_ias i_94_36
theorem q_94_37 : XX d 94 37 [some (.ref a), v1, v2, v3, v4, v5] st A Q ↔ XX d 94 38 [some (.ref a), v1, v2, v3, v4, v5] (.ref a :: st) A Q := c_lcl i_94_37 rfl rfl
theorem q_94_38 : XX d 94 38 [v0, v1, v2, v3, v4, v5] (.ref a :: st) (mk S I L R G) Q ↔ S a = some (.inr 9) ∧ XX d 94 41 [v0, v1, v2, v3, v4, v5] (.ref (a + 1) :: st) (mk S I L R G) Q := r_gf i_94_38 rfl (by decide) rfl
theorem q_94_41 : XX d 94 41 [v0, v1, v2, v3, v4, v5] (.ref a :: st) (mk S I L R G) Q ↔ S a = some (.inr 4) ∧ XX d 94 44 [v0, v1, v2, v3, v4, v5] (.ref (a + 3) :: st) (mk S I L R G) Q := r_gf i_94_41 rfl (by decide) rfl
theorem q_94_44 : XX d 94 44 [v0, v1, v2, v3, some (.int x), v5] st A Q ↔ XX d 94 46 [v0, v1, v2, v3, some (.int x), v5] (.int x :: st) A Q := c_lcl i_94_44 rfl rfl
theorem q_94_46 : XX d 94 46 [v0, v1, v2, v3, v4, v5] (.int x :: .ref a :: st) (mk S I L R G) Q ↔ inA (S a) ok_i x ∧ XX d 94 47 [v0, v1, v2, v3, v4, v5] (.int (I a (ix x)) :: st) (mk S I L R G) Q := r_ia i_94_46
theorem q_94_47 : XX d 94 47 [v0, v1, v2, v3, some (.int z), v5] (.int x :: st) A Q ↔ XX d 94 49 [v0, v1, v2, v3, some (.int z), some (.int x)] st A Q := c_lcl i_94_47 rfl rfl
theorem q_94_49 : XX d 94 49 [v0, v1, v2, v3, v4, some (.int x)] st A Q ↔ XX d 94 51 [v0, v1, v2, v3, v4, some (.int x)] (.int x :: st) A Q := c_lcl i_94_49 rfl rfl
theorem q_94_51 : XX d 94 51 [v0, v1, v2, v3, v4, v5] (.int x :: st) A Q ↔ if w 0 < x then XX d 94 56 [v0, v1, v2, v3, v4, v5] st A Q else XX d 94 54 [v0, v1, v2, v3, v4, v5] st A Q := z_gt i_94_51 rfl rfl rfl
theorem q_94_54 : XX d 94 54 [v0, v1, v2, v3, v4, v5] st A Q ↔ XX d 94 55 [v0, v1, v2, v3, v4, v5] (.int (w 1) :: st) A Q := c_stk i_94_54 rfl
theorem q_94_55 : XX d 94 55 [v0, v1, v2, v3, v4, v5] [.int x] A Q ↔ (x = w 0 ∨ x = w 1) ∧ Q (.inl (some (.int x))) A := e_retZ i_94_55 rfl
theorem q_94_56 : XX d 94 56 [some (.ref a), v1, v2, v3, v4, v5] st A Q ↔ XX d 94 57 [some (.ref a), v1, v2, v3, v4, v5] (.ref a :: st) A Q := c_lcl i_94_56 rfl rfl
theorem q_94_57 : XX d 94 57 [v0, v1, v2, v3, v4, some (.int x)] st A Q ↔ XX d 94 59 [v0, v1, v2, v3, v4, some (.int x)] (.int x :: st) A Q := c_lcl i_94_57 rfl rfl
theorem q_94_59 : XX d 94 59 [v0, v1, some (.int x), v3, v4, v5] st A Q ↔ XX d 94 60 [v0, v1, some (.int x), v3, v4, v5] (.int x :: st) A Q := c_lcl i_94_59 rfl rfl
theorem q_94_60 : XX d 94 60 [v0, v1, v2, some (.int x), v4, v5] st A Q ↔ XX d 94 61 [v0, v1, v2, some (.int x), v4, v5] (.int x :: st) A Q := c_lcl i_94_60 rfl rfl
theorem q_94_61 : XX (d + 1) 94 61 [v0, v1, v2, v3, v4, v5] [.int x3, .int x2, .int x1, .ref a0] (mk S I L R G) Q ↔ S a0 = some (.inr 9) ∧ XC d 95 [.ref a0, .int x1, .int x2, .int x3] (mk S I L R G) (XK (d + 1) 94 61 [v0, v1, v2, v3, v4, v5] [] Q) := c_callV i_94_61 rfl rfl rfl rfl (Nat.le_of_ble_eq_true rfl) (Nat.le_of_ble_eq_true rfl) rfl
theorem q_94_64 : XX d 94 64 [v0, v1, v2, v3, v4, v5] (.int x :: st) A Q ↔ if x = w 0 then XX d 94 67 [v0, v1, v2, v3, v4, v5] st A Q else XX d 94 69 [v0, v1, v2, v3, v4, v5] st A Q := z_ne i_94_64 rfl rfl rfl
theorem q_94_67 : XX d 94 67 [v0, v1, v2, v3, v4, v5] st A Q ↔ XX d 94 68 [v0, v1, v2, v3, v4, v5] (.int (w 0) :: st) A Q := c_stk i_94_67 rfl
theorem q_94_68 : XX d 94 68 [v0, v1, v2, v3, v4, v5] [.int x] A Q ↔ (x = w 0 ∨ x = w 1) ∧ Q (.inl (some (.int x))) A := e_retZ i_94_68 rfl
theorem q_94_69 : XX d 94 69 [some (.ref a), v1, v2, v3, v4, v5] st A Q ↔ XX d 94 70 [some (.ref a), v1, v2, v3, v4, v5] (.ref a :: st) A Q := c_lcl i_94_69 rfl rfl
theorem q_94_70 : XX d 94 70 [v0, v1, v2, v3, v4, v5] (.ref a :: st) (mk S I L R G) Q ↔ S a = some (.inr 9) ∧ XX d 94 73 [v0, v1, v2, v3, v4, v5] (.ref (a + 1) :: st) (mk S I L R G) Q := r_gf i_94_70 rfl (by decide) rfl
theorem q_94_73 : XX d 94 73 [v0, v1, v2, v3, v4, v5] (.ref a :: st) (mk S I L R G) Q ↔ S a = some (.inr 4) ∧ XX d 94 76 [v0, v1, v2, v3, v4, v5] (.ref (a + 1) :: st) (mk S I L R G) Q := r_gf i_94_73 rfl (by decide) rfl
theorem q_94_76 : XX d 94 76 [v0, v1, v2, v3, some (.int x), v5] st A Q ↔ XX d 94 78 [v0, v1, v2, v3, some (.int x), v5] (.int x :: st) A Q := c_lcl i_94_76 rfl rfl
theorem q_94_78 : XX d 94 78 [v0, v1, v2, v3, v4, v5] st A Q ↔ XX d 94 80 [v0, v1, v2, v3, v4, v5] (.int (w 100) :: st) A Q := c_stk i_94_78 rfl
theorem q_94_80 : XX d 94 80 [v0, v1, v2, v3, v4, v5] (.int y :: .int x :: st) A Q ↔ XX d 94 81 [v0, v1, v2, v3, v4, v5] (.int (x * y) :: st) A Q := c_stk i_94_80 rfl
theorem q_94_81 : XX d 94 81 [some (.ref a), v1, v2, v3, v4, v5] st A Q ↔ XX d 94 82 [some (.ref a), v1, v2, v3, v4, v5] (.ref a :: st) A Q := c_lcl i_94_81 rfl rfl
theorem q_94_82 : XX d 94 82 [v0, v1, v2, v3, v4, v5] (.ref a :: st) (mk S I L R G) Q ↔ S a = some (.inr 9) ∧ XX d 94 85 [v0, v1, v2, v3, v4, v5] (.ref (a + 14) :: st) (mk S I L R G) Q := r_gf i_94_82 rfl (by decide) rfl
theorem q_94_85 : XX d 94 85 [v0, v1, some (.int x), v3, v4, v5] st A Q ↔ XX d 94 86 [v0, v1, some (.int x), v3, v4, v5] (.int x :: st) A Q := c_lcl i_94_85 rfl rfl
theorem q_94_86 : XX d 94 86 [v0, v1, v2, v3, v4, v5] st A Q ↔ XX d 94 88 [v0, v1, v2, v3, v4, v5] (.int (w 100) :: st) A Q := c_stk i_94_86 rfl
theorem q_94_88 : XX d 94 88 [v0, v1, v2, v3, v4, v5] (.int y :: .int x :: st) A Q ↔ XX d 94 89 [v0, v1, v2, v3, v4, v5] (.int (x * y) :: st) A Q := c_stk i_94_88 rfl
theorem q_94_89 : XX d 94 89 [some (.ref a), v1, v2, v3, v4, v5] st A Q ↔ XX d 94 90 [some (.ref a), v1, v2, v3, v4, v5] (.ref a :: st) A Q := c_lcl i_94_89 rfl rfl
theorem q_94_90 : XX d 94 90 [v0, v1, v2, v3, v4, v5] (.ref a :: st) (mk S I L R G) Q ↔ S a = some (.inr 9) ∧ XX d 94 93 [v0, v1, v2, v3, v4, v5] (.ref (a + 15) :: st) (mk S I L R G) Q := r_gf i_94_90 rfl (by decide) rfl
theorem q_94_93 : XX d 94 93 [v0, v1, some (.int x), v3, v4, v5] st A Q ↔ XX d 94 94 [v0, v1, some (.int x), v3, v4, v5] (.int x :: st) A Q := c_lcl i_94_93 rfl rfl
theorem q_94_94 : XX d 94 94 [v0, v1, v2, v3, v4, v5] (.int x :: .ref a :: st) (mk S I L R G) Q ↔ inA (S a) ok_i x ∧ XX d 94 95 [v0, v1, v2, v3, v4, v5] (.int (I a (ix x)) :: st) (mk S I L R G) Q := r_ia i_94_94
theorem q_94_95 : XX d 94 95 [v0, v1, v2, v3, v4, v5] (.int y :: .int x :: st) A Q ↔ XX d 94 96 [v0, v1, v2, v3, v4, v5] (.int (x + y) :: st) A Q := c_stk i_94_95 rfl
theorem q_94_96 : XX d 94 96 [v0, v1, v2, v3, v4, some (.int x)] st A Q ↔ XX d 94 98 [v0, v1, v2, v3, v4, some (.int x)] (.int x :: st) A Q := c_lcl i_94_96 rfl rfl
theorem q_94_98 : XX (d + 1) 94 98 [v0, v1, v2, v3, v4, v5] [.int x4, .int x3, .ref a2, .int x1, .ref a0] A Q ↔ XC d 150 [.ref a0, .int x1, .ref a2, .int x3, .int x4] A (XK (d + 1) 94 98 [v0, v1, v2, v3, v4, v5] [] Q) := c_callS i_94_98 rfl rfl rfl rfl (Nat.le_of_ble_eq_true rfl) (Nat.le_of_ble_eq_true rfl)
theorem q_94_101 : XX d 94 101 [some (.ref a), v1, v2, v3, v4, v5] st A Q ↔ XX d 94 102 [some (.ref a), v1, v2, v3, v4, v5] (.ref a :: st) A Q := c_lcl i_94_101 rfl rfl
theorem q_94_102 : XX d 94 102 [v0, v1, v2, v3, v4, v5] (.ref a :: st) (mk S I L R G) Q ↔ S a = some (.inr 9) ∧ XX d 94 105 [v0, v1, v2, v3, v4, v5] (.ref (a + 15) :: st) (mk S I L R G) Q := r_gf i_94_102 rfl (by decide) rfl
theorem q_94_105 : XX d 94 105 [v0, v1, some (.int x), v3, v4, v5] st A Q ↔ XX d 94 106 [v0, v1, some (.int x), v3, v4, v5] (.int x :: st) A Q := c_lcl i_94_105 rfl rfl
theorem q_94_106 : XX d 94 106 [v0, v1, v2, v3, v4, v5] (.int x1 :: .ref a2 :: st) A Q ↔ XX d 94 107 [v0, v1, v2, v3, v4, v5] (.int x1 :: .ref a2 :: .int x1 :: .ref a2 :: st) A Q := c_stk i_94_106 rfl
theorem q_94_107 : XX d 94 107 [v0, v1, v2, v3, v4, v5] (.int x :: .ref a :: st) (mk S I L R G) Q ↔ inA (S a) ok_i x ∧ XX d 94 108 [v0, v1, v2, v3, v4, v5] (.int (I a (ix x)) :: st) (mk S I L R G) Q := r_ia i_94_107
theorem q_94_108 : XX d 94 108 [v0, v1, v2, v3, v4, some (.int x)] st A Q ↔ XX d 94 110 [v0, v1, v2, v3, v4, some (.int x)] (.int x :: st) A Q := c_lcl i_94_108 rfl rfl
theorem q_94_110 : XX d 94 110 [v0, v1, v2, v3, v4, v5] (.int y :: .int x :: st) A Q ↔ XX d 94 111 [v0, v1, v2, v3, v4, v5] (.int (x + y) :: st) A Q := c_stk i_94_110 rfl
theorem q_94_111 : XX d 94 111 [v0, v1, v2, v3, v4, v5] (.int y :: .int x :: .ref a :: st) (mk S I L R G) Q ↔ inA (S a) ok_0 x ∧ XX d 94 112 [v0, v1, v2, v3, v4, v5] st (mk S (wr I a (up (I a) (ix x) y)) L R G) Q := r_ias i_94_111
theorem q_94_112 : XX d 94 112 [v0, v1, v2, v3, v4, v5] st A Q ↔ XX d 94 113 [v0, v1, v2, v3, v4, v5] (.int (w 1) :: st) A Q := c_stk i_94_112 rfl
theorem q_94_113 : XX d 94 113 [v0, v1, v2, v3, v4, v5] [.int x] A Q ↔ (x = w 0 ∨ x = w 1) ∧ Q (.inl (some (.int x))) A := e_retZ i_94_113 rfl
theorem q_94_e : XC d 94 [.ref a0, .int x1, .int x2, .int x3] A Q ↔ XX d 94 0 [some (.ref a0), some (.int x1), some (.int x2), some (.int x3), none, none] [] A Q := Iff.rfl
theorem i_95_0 : t_ins 95 0 = some (.aload_n 0) := by decide +kernel
theorem i_95_1 : t_ins 95 1 = some (.getfield 46) := by decide +kernel
theorem i_95_4 : t_ins 95 4 = some (.iload_n 2) := by decide +kernel
theorem i_95_5 : t_ins 95 5 = some (.iaload) := by decide +kernel
theorem i_95_6 : t_ins 95 6 = some (.istore 4) := by decide +kernel
theorem i_95_8 : t_ins 95 8 = some (.iload 4) := by decide +kernel
theorem i_95_10 : t_ins 95 10 = some (.ifCond .le 11) := by decide +kernel
theorem i_95_13 : t_ins 95 13 = some (.iload_n 3) := by decide +kernel
theorem i_95_14 : t_ins 95 14 = some (.ifCond .ne 7) := by decide +kernel
theorem i_95_17 : t_ins 95 17 = some (.iconst 1) := by decide +kernel
theorem i_95_18 : t_ins 95 18 = some (.goto 4) := by decide +kernel
theorem i_95_21 : t_ins 95 21 = some (.iconst 0) := by decide +kernel
theorem i_95_22 : t_ins 95 22 = some (.istore 5) := by decide +kernel
theorem i_95_24 : t_ins 95 24 = some (.iload 4) := by decide +kernel
theorem i_95_26 : t_ins 95 26 = some (.iload 5) := by decide +kernel
theorem i_95_28 : t_ins 95 28 = some (.ifCond .eq 7) := by decide +kernel
theorem i_95_31 : t_ins 95 31 = some (.iconst 1) := by decide +kernel
theorem i_95_32 : t_ins 95 32 = some (.goto 4) := by decide +kernel
theorem i_95_35 : t_ins 95 35 = some (.iconst 0) := by decide +kernel
theorem i_95_36 : t_ins 95 36 = some (.iadd) := by decide +kernel
theorem i_95_37 : t_ins 95 37 = some (.iload_n 1) := by decide +kernel
theorem i_95_38 : t_ins 95 38 = some (.iadd) := by decide +kernel
theorem i_95_39 : t_ins 95 39 = some (.bipush 100) := by decide +kernel
theorem i_95_41 : t_ins 95 41 = some (.if_icmp .le 5) := by decide +kernel
theorem i_95_44 : t_ins 95 44 = some (.iconst 0) := by decide +kernel
theorem i_95_45 : t_ins 95 45 = some (.ireturn) := by decide +kernel
theorem i_95_46 : t_ins 95 46 = some (.iload 5) := by decide +kernel
theorem i_95_48 : t_ins 95 48 = some (.ifCond .eq 27) := by decide +kernel
theorem i_95_51 : t_ins 95 51 = some (.aload_n 0) := by decide +kernel
theorem i_95_52 : t_ins 95 52 = some (.getfield 42) := by decide +kernel
theorem i_95_55 : t_ins 95 55 = some (.iload_n 2) := by decide +kernel
theorem i_95_56 : t_ins 95 56 = some (.bipush 100) := by decide +kernel
theorem i_95_58 : t_ins 95 58 = some (.imul) := by decide +kernel
theorem i_95_59 : t_ins 95 59 = some (.iload 4) := by decide +kernel
theorem i_95_61 : t_ins 95 61 = some (.iadd) := by decide +kernel
theorem i_95_62 : t_ins 95 62 = some (.bipush 32) := by decide +kernel
theorem i_95_64 : t_ins 95 64 = some (.bastore) := by decide +kernel
theorem i_95_65 : t_ins 95 65 = some (.aload_n 0) := by decide +kernel
theorem i_95_66 : t_ins 95 66 = some (.getfield 46) := by decide +kernel
theorem i_95_69 : t_ins 95 69 = some (.iload_n 2) := by decide +kernel
theorem i_95_70 : t_ins 95 70 = some (.iload 4) := by decide +kernel
theorem i_95_72 : t_ins 95 72 = some (.iconst 1) := by decide +kernel
theorem i_95_73 : t_ins 95 73 = some (.iadd) := by decide +kernel
theorem i_95_74 : t_ins 95 74 = some (.iastore) := by decide +kernel
theorem i_95_75 : t_ins 95 75 = some (.iconst 1) := by decide +kernel
theorem i_95_76 : t_ins 95 76 = some (.ireturn) := by decide +kernel
theorem q_95_0 : XX d 95 0 [some (.ref a), v1, v2, v3, v4, v5] st A Q ↔ XX d 95 1 [some (.ref a), v1, v2, v3, v4, v5] (.ref a :: st) A Q := c_lcl i_95_0 rfl rfl
theorem q_95_1 : XX d 95 1 [v0, v1, v2, v3, v4, v5] (.ref a :: st) (mk S I L R G) Q ↔ S a = some (.inr 9) ∧ XX d 95 4 [v0, v1, v2, v3, v4, v5] (.ref (a + 15) :: st) (mk S I L R G) Q := r_gf i_95_1 rfl (by decide) rfl
theorem q_95_4 : XX d 95 4 [v0, v1, some (.int x), v3, v4, v5] st A Q ↔ XX d 95 5 [v0, v1, some (.int x), v3, v4, v5] (.int x :: st) A Q := c_lcl i_95_4 rfl rfl
theorem q_95_5 : XX d 95 5 [v0, v1, v2, v3, v4, v5] (.int x :: .ref a :: st) (mk S I L R G) Q ↔ inA (S a) ok_i x ∧ XX d 95 6 [v0, v1, v2, v3, v4, v5] (.int (I a (ix x)) :: st) (mk S I L R G) Q := r_ia i_95_5
theorem q_95_6 : XX d 95 6 [v0, v1, v2, some (.int z), v4, v5] (.int x :: st) A Q ↔ XX d 95 8 [v0, v1, v2, some (.int z), some (.int x), v5] st A Q := c_lcl i_95_6 rfl rfl
theorem q_95_8 : XX d 95 8 [v0, v1, v2, v3, some (.int x), v5] st A Q ↔ XX d 95 10 [v0, v1, v2, v3, some (.int x), v5] (.int x :: st) A Q := c_lcl i_95_8 rfl rfl
theorem q_95_10 : XX d 95 10 [v0, v1, v2, v3, v4, v5] (.int x :: st) A Q ↔ if w 0 < x then XX d 95 13 [v0, v1, v2, v3, v4, v5] st A Q else XX d 95 21 [v0, v1, v2, v3, v4, v5] st A Q := z_le i_95_10 rfl rfl rfl
theorem q_95_13 : XX d 95 13 [v0, v1, v2, some (.int x), v4, v5] st A Q ↔ XX d 95 14 [v0, v1, v2, some (.int x), v4, v5] (.int x :: st) A Q := c_lcl i_95_13 rfl rfl
theorem q_95_14 : XX d 95 14 [v0, v1, v2, v3, v4, v5] (.int x :: st) A Q ↔ if x = w 0 then XX d 95 17 [v0, v1, v2, v3, v4, v5] st A Q else XX d 95 21 [v0, v1, v2, v3, v4, v5] st A Q := z_ne i_95_14 rfl rfl rfl
theorem q_95_17 : XX d 95 17 [v0, v1, v2, v3, v4, v5] st A Q ↔ XX d 95 18 [v0, v1, v2, v3, v4, v5] (.int (w 1) :: st) A Q := c_stk i_95_17 rfl
theorem q_95_18 : XX d 95 18 [v0, v1, v2, v3, v4, v5] st A Q ↔ XX d 95 22 [v0, v1, v2, v3, v4, v5] st A Q := c_go i_95_18 rfl rfl
theorem q_95_21 : XX d 95 21 [v0, v1, v2, v3, v4, v5] st A Q ↔ XX d 95 22 [v0, v1, v2, v3, v4, v5] (.int (w 0) :: st) A Q := c_stk i_95_21 rfl
theorem q_95_22 : XX d 95 22 [v0, v1, v2, v3, some (.int z), v5] (.int x :: st) A Q ↔ XX d 95 24 [v0, v1, v2, v3, some (.int z), some (.int x)] st A Q := c_lcl i_95_22 rfl rfl
theorem q_95_24 : XX d 95 24 [v0, v1, v2, v3, some (.int x), v5] st A Q ↔ XX d 95 26 [v0, v1, v2, v3, some (.int x), v5] (.int x :: st) A Q := c_lcl i_95_24 rfl rfl
theorem q_95_26 : XX d 95 26 [v0, v1, v2, v3, v4, some (.int x)] st A Q ↔ XX d 95 28 [v0, v1, v2, v3, v4, some (.int x)] (.int x :: st) A Q := c_lcl i_95_26 rfl rfl
theorem q_95_28 : XX d 95 28 [v0, v1, v2, v3, v4, v5] (.int x :: st) A Q ↔ if x = w 0 then XX d 95 35 [v0, v1, v2, v3, v4, v5] st A Q else XX d 95 31 [v0, v1, v2, v3, v4, v5] st A Q := z_eq i_95_28 rfl rfl rfl
theorem q_95_31 : XX d 95 31 [v0, v1, v2, v3, v4, v5] st A Q ↔ XX d 95 32 [v0, v1, v2, v3, v4, v5] (.int (w 1) :: st) A Q := c_stk i_95_31 rfl
theorem q_95_32 : XX d 95 32 [v0, v1, v2, v3, v4, v5] st A Q ↔ XX d 95 36 [v0, v1, v2, v3, v4, v5] st A Q := c_go i_95_32 rfl rfl
theorem q_95_35 : XX d 95 35 [v0, v1, v2, v3, v4, v5] st A Q ↔ XX d 95 36 [v0, v1, v2, v3, v4, v5] (.int (w 0) :: st) A Q := c_stk i_95_35 rfl
theorem q_95_36 : XX d 95 36 [v0, v1, v2, v3, v4, v5] (.int y :: .int x :: st) A Q ↔ XX d 95 37 [v0, v1, v2, v3, v4, v5] (.int (x + y) :: st) A Q := c_stk i_95_36 rfl
theorem q_95_37 : XX d 95 37 [v0, some (.int x), v2, v3, v4, v5] st A Q ↔ XX d 95 38 [v0, some (.int x), v2, v3, v4, v5] (.int x :: st) A Q := c_lcl i_95_37 rfl rfl
theorem q_95_38 : XX d 95 38 [v0, v1, v2, v3, v4, v5] (.int y :: .int x :: st) A Q ↔ XX d 95 39 [v0, v1, v2, v3, v4, v5] (.int (x + y) :: st) A Q := c_stk i_95_38 rfl
theorem q_95_39 : XX d 95 39 [v0, v1, v2, v3, v4, v5] st A Q ↔ XX d 95 41 [v0, v1, v2, v3, v4, v5] (.int (w 100) :: st) A Q := c_stk i_95_39 rfl
theorem q_95_41 : XX d 95 41 [v0, v1, v2, v3, v4, v5] (.int y :: .int x :: st) A Q ↔ if y < x then XX d 95 44 [v0, v1, v2, v3, v4, v5] st A Q else XX d 95 46 [v0, v1, v2, v3, v4, v5] st A Q := b_le i_95_41 rfl rfl rfl
theorem q_95_44 : XX d 95 44 [v0, v1, v2, v3, v4, v5] st A Q ↔ XX d 95 45 [v0, v1, v2, v3, v4, v5] (.int (w 0) :: st) A Q := c_stk i_95_44 rfl
theorem q_95_45 : XX d 95 45 [v0, v1, v2, v3, v4, v5] [.int x] A Q ↔ (x = w 0 ∨ x = w 1) ∧ Q (.inl (some (.int x))) A := e_retZ i_95_45 rfl
theorem q_95_46 : XX d 95 46 [v0, v1, v2, v3, v4, some (.int x)] st A Q ↔ XX d 95 48 [v0, v1, v2, v3, v4, some (.int x)] (.int x :: st) A Q := c_lcl i_95_46 rfl rfl
theorem q_95_48 : XX d 95 48 [v0, v1, v2, v3, v4, v5] (.int x :: st) A Q ↔ if x = w 0 then XX d 95 75 [v0, v1, v2, v3, v4, v5] st A Q else XX d 95 51 [v0, v1, v2, v3, v4, v5] st A Q := z_eq i_95_48 rfl rfl rfl
theorem q_95_51 : XX d 95 51 [some (.ref a), v1, v2, v3, v4, v5] st A Q ↔ XX d 95 52 [some (.ref a), v1, v2, v3, v4, v5] (.ref a :: st) A Q := c_lcl i_95_51 rfl rfl
theorem q_95_52 : XX d 95 52 [v0, v1, v2, v3, v4, v5] (.ref a :: st) (mk S I L R G) Q ↔ S a = some (.inr 9) ∧ XX d 95 55 [v0, v1, v2, v3, v4, v5] (.ref (a + 14) :: st) (mk S I L R G) Q := r_gf i_95_52 rfl (by decide) rfl
theorem q_95_55 : XX d 95 55 [v0, v1, some (.int x), v3, v4, v5] st A Q ↔ XX d 95 56 [v0, v1, some (.int x), v3, v4, v5] (.int x :: st) A Q := c_lcl i_95_55 rfl rfl
theorem q_95_56 : XX d 95 56 [v0, v1, v2, v3, v4, v5] st A Q ↔ XX d 95 58 [v0, v1, v2, v3, v4, v5] (.int (w 100) :: st) A Q := c_stk i_95_56 rfl
theorem q_95_58 : XX d 95 58 [v0, v1, v2, v3, v4, v5] (.int y :: .int x :: st) A Q ↔ XX d 95 59 [v0, v1, v2, v3, v4, v5] (.int (x * y) :: st) A Q := c_stk i_95_58 rfl
theorem q_95_59 : XX d 95 59 [v0, v1, v2, v3, some (.int x), v5] st A Q ↔ XX d 95 61 [v0, v1, v2, v3, some (.int x), v5] (.int x :: st) A Q := c_lcl i_95_59 rfl rfl
theorem q_95_61 : XX d 95 61 [v0, v1, v2, v3, v4, v5] (.int y :: .int x :: st) A Q ↔ XX d 95 62 [v0, v1, v2, v3, v4, v5] (.int (x + y) :: st) A Q := c_stk i_95_61 rfl
theorem q_95_62 : XX d 95 62 [v0, v1, v2, v3, v4, v5] st A Q ↔ XX d 95 64 [v0, v1, v2, v3, v4, v5] (.int (w 32) :: st) A Q := c_stk i_95_62 rfl
theorem q_95_64 : XX d 95 64 [v0, v1, v2, v3, v4, v5] (.int y :: .int x :: .ref a :: st) (mk S I L R G) Q ↔ bsP (S a) x y (fun y => XX d 95 65 [v0, v1, v2, v3, v4, v5] st (mk S (wr I a (up (I a) (ix x) y)) L R G) Q) := r_bas i_95_64
theorem q_95_65 : XX d 95 65 [some (.ref a), v1, v2, v3, v4, v5] st A Q ↔ XX d 95 66 [some (.ref a), v1, v2, v3, v4, v5] (.ref a :: st) A Q := c_lcl i_95_65 rfl rfl
theorem q_95_66 : XX d 95 66 [v0, v1, v2, v3, v4, v5] (.ref a :: st) (mk S I L R G) Q ↔ S a = some (.inr 9) ∧ XX d 95 69 [v0, v1, v2, v3, v4, v5] (.ref (a + 15) :: st) (mk S I L R G) Q := r_gf i_95_66 rfl (by decide) rfl
theorem q_95_69 : XX d 95 69 [v0, v1, some (.int x), v3, v4, v5] st A Q ↔ XX d 95 70 [v0, v1, some (.int x), v3, v4, v5] (.int x :: st) A Q := c_lcl i_95_69 rfl rfl
theorem q_95_70 : XX d 95 70 [v0, v1, v2, v3, some (.int x), v5] st A Q ↔ XX d 95 72 [v0, v1, v2, v3, some (.int x), v5] (.int x :: st) A Q := c_lcl i_95_70 rfl rfl
theorem q_95_72 : XX d 95 72 [v0, v1, v2, v3, v4, v5] st A Q ↔ XX d 95 73 [v0, v1, v2, v3, v4, v5] (.int (w 1) :: st) A Q := c_stk i_95_72 rfl
theorem q_95_73 : XX d 95 73 [v0, v1, v2, v3, v4, v5] (.int y :: .int x :: st) A Q ↔ XX d 95 74 [v0, v1, v2, v3, v4, v5] (.int (x + y) :: st) A Q := c_stk i_95_73 rfl
theorem q_95_74 : XX d 95 74 [v0, v1, v2, v3, v4, v5] (.int y :: .int x :: .ref a :: st) (mk S I L R G) Q ↔ inA (S a) ok_0 x ∧ XX d 95 75 [v0, v1, v2, v3, v4, v5] st (mk S (wr I a (up (I a) (ix x) y)) L R G) Q := r_ias i_95_74
theorem q_95_75 : XX d 95 75 [v0, v1, v2, v3, v4, v5] st A Q ↔ XX d 95 76 [v0, v1, v2, v3, v4, v5] (.int (w 1) :: st) A Q := c_stk i_95_75 rfl
theorem q_95_76 : XX d 95 76 [v0, v1, v2, v3, v4, v5] [.int x] A Q ↔ (x = w 0 ∨ x = w 1) ∧ Q (.inl (some (.int x))) A := e_retZ i_95_76 rfl
theorem q_95_e : XC d 95 [.ref a0, .int x1, .int x2, .int x3] A Q ↔ XX d 95 0 [some (.ref a0), some (.int x1), some (.int x2), some (.int x3), none, none] [] A Q := Iff.rfl
theorem i_96_0 : t_ins 96 0 = some (.aload_n 0) := by decide +kernel
theorem i_96_1 : t_ins 96 1 = some (.invokespecial 3) := by decide +kernel
theorem i_96_4 : t_ins 96 4 = some (.aload_n 0) := by decide +kernel
theorem i_96_5 : t_ins 96 5 = some (.ldc 11) := by decide +kernel
theorem i_96_7 : t_ins 96 7 = some (.newarray .int) := by decide +kernel
theorem i_96_9 : t_ins 96 9 = some (.putfield 12) := by decide +kernel
theorem i_96_12 : t_ins 96 12 = some (.aload_n 0) := by decide +kernel
theorem i_96_13 : t_ins 96 13 = some (.ldc 11) := by decide +kernel
theorem i_96_15 : t_ins 96 15 = some (.newarray .int) := by decide +kernel
theorem i_96_17 : t_ins 96 17 = some (.putfield 16) := by decide +kernel
theorem i_96_20 : t_ins 96 20 = some (.aload_n 0) := by decide +kernel
theorem i_96_21 : t_ins 96 21 = some (.ldc 11) := by decide +kernel
theorem i_96_23 : t_ins 96 23 = some (.newarray .int) := by decide +kernel
theorem i_96_25 : t_ins 96 25 = some (.putfield 19) := by decide +kernel
theorem i_96_28 : t_ins 96 28 = some (.aload_n 0) := by decide +kernel
theorem i_96_29 : t_ins 96 29 = some (.iconst 0) := by decide +kernel
theorem i_96_30 : t_ins 96 30 = some (.putfield 22) := by decide +kernel
theorem i_96_33 : t_ins 96 33 = some (.aload_n 0) := by decide +kernel
theorem i_96_34 : t_ins 96 34 = some (.iconst (-1)) := by decide +kernel
theorem i_96_35 : t_ins 96 35 = some (.putfield 26) := by decide +kernel
theorem i_96_38 : t_ins 96 38 = some (.return_) := by decide +kernel
theorem q_96_0 : XX d 96 0 [some (.ref a)] st A Q ↔ XX d 96 1 [some (.ref a)] (.ref a :: st) A Q := c_lcl i_96_0 rfl rfl
theorem q_96_4 : XX d 96 4 [some (.ref a)] st A Q ↔ XX d 96 5 [some (.ref a)] (.ref a :: st) A Q := c_lcl i_96_4 rfl rfl
theorem q_96_5 : XX d 96 5 [v0] st A Q ↔ XX d 96 7 [v0] (.int (w 32768) :: st) A Q := r_ldc i_96_5 rfl
theorem q_96_12 : XX d 96 12 [some (.ref a)] st A Q ↔ XX d 96 13 [some (.ref a)] (.ref a :: st) A Q := c_lcl i_96_12 rfl rfl
theorem q_96_13 : XX d 96 13 [v0] st A Q ↔ XX d 96 15 [v0] (.int (w 32768) :: st) A Q := r_ldc i_96_13 rfl
theorem q_96_20 : XX d 96 20 [some (.ref a)] st A Q ↔ XX d 96 21 [some (.ref a)] (.ref a :: st) A Q := c_lcl i_96_20 rfl rfl
theorem q_96_21 : XX d 96 21 [v0] st A Q ↔ XX d 96 23 [v0] (.int (w 32768) :: st) A Q := r_ldc i_96_21 rfl
theorem q_96_28 : XX d 96 28 [some (.ref a)] st A Q ↔ XX d 96 29 [some (.ref a)] (.ref a :: st) A Q := c_lcl i_96_28 rfl rfl
theorem q_96_29 : XX d 96 29 [v0] st A Q ↔ XX d 96 30 [v0] (.int (w 0) :: st) A Q := c_stk i_96_29 rfl
theorem q_96_33 : XX d 96 33 [some (.ref a)] st A Q ↔ XX d 96 34 [some (.ref a)] (.ref a :: st) A Q := c_lcl i_96_33 rfl rfl
theorem q_96_34 : XX d 96 34 [v0] st A Q ↔ XX d 96 35 [v0] (.int (w (-1)) :: st) A Q := c_stk i_96_34 rfl
theorem q_96_38 : XX d 96 38 [v0] [] A Q ↔ Q (.inl none) A := e_retN i_96_38 rfl
theorem q_96_e : XC d 96 [.ref a0] A Q ↔ XX d 96 0 [some (.ref a0)] [] A Q := Iff.rfl
theorem i_97_0 : t_ins 97 0 = some (.aload_n 0) := by decide +kernel
theorem i_97_1 : t_ins 97 1 = some (.getfield 19) := by decide +kernel
theorem i_97_4 : t_ins 97 4 = some (.iconst 0) := by decide +kernel
theorem i_97_5 : t_ins 97 5 = some (.invokestatic 29) := by decide +kernel
theorem i_97_8 : t_ins 97 8 = some (.aload_n 0) := by decide +kernel
theorem i_97_9 : t_ins 97 9 = some (.iconst 0) := by decide +kernel
theorem i_97_10 : t_ins 97 10 = some (.putfield 22) := by decide +kernel
theorem i_97_13 : t_ins 97 13 = some (.iconst 0) := by decide +kernel
theorem i_97_14 : t_ins 97 14 = some (.istore_n 3) := by decide +kernel
theorem i_97_15 : t_ins 97 15 = some (.iload_n 3) := by decide +kernel
theorem i_97_16 : t_ins 97 16 = some (.iload_n 2) := by decide +kernel
theorem i_97_17 : t_ins 97 17 = some (.if_icmp .gt 44) := by decide +kernel
theorem i_97_20 : t_ins 97 20 = some (.aload_n 1) := by decide +kernel
theorem i_97_21 : t_ins 97 21 = some (.iload_n 3) := by decide +kernel
theorem i_97_22 : t_ins 97 22 = some (.invokevirtual 35) := by decide +kernel
theorem i_97_25 : t_ins 97 25 = some (.ifCond .eq 30) := by decide +kernel
theorem i_97_28 : t_ins 97 28 = some (.aload_n 0) := by decide +kernel
theorem i_97_29 : t_ins 97 29 = some (.aload_n 1) := by decide +kernel
theorem i_97_30 : t_ins 97 30 = some (.getfield 41) := by decide +kernel
theorem i_97_33 : t_ins 97 33 = some (.getfield 45) := by decide +kernel
theorem i_97_36 : t_ins 97 36 = some (.aload_n 1) := by decide +kernel
theorem i_97_37 : t_ins 97 37 = some (.getfield 41) := by decide +kernel
theorem i_97_40 : t_ins 97 40 = some (.iload_n 3) := by decide +kernel
theorem i_97_41 : t_ins 97 41 = some (.invokevirtual 51) := by decide +kernel
theorem i_97_44 : t_ins 97 44 = some (.aload_n 1) := by decide +kernel
theorem i_97_45 : t_ins 97 45 = some (.getfield 41) := by decide +kernel
theorem i_97_48 : t_ins 97 48 = some (.iload_n 3) := by decide +kernel
theorem i_97_49 : t_ins 97 49 = some (.invokevirtual 55) := by decide +kernel
theorem i_97_52 : t_ins 97 52 = some (.invokevirtual 58) := by decide +kernel
theorem i_97_55 : t_ins 97 55 = some (.iinc 3 1) := by decide +kernel
theorem i_97_58 : t_ins 97 58 = some (.goto (-43)) := by decide +kernel
theorem i_97_61 : t_ins 97 61 = some (.aload_n 0) := by decide +kernel
theorem i_97_62 : t_ins 97 62 = some (.aload_n 1) := by decide +kernel
theorem i_97_63 : t_ins 97 63 = some (.getfield 41) := by decide +kernel
theorem i_97_66 : t_ins 97 66 = some (.getfield 45) := by decide +kernel
theorem i_97_69 : t_ins 97 69 = some (.invokevirtual 62) := by decide +kernel
theorem i_97_72 : t_ins 97 72 = some (.return_) := by decide +kernel
theorem q_97_0 : XX d 97 0 [some (.ref a), v1, v2, v3] st A Q ↔ XX d 97 1 [some (.ref a), v1, v2, v3] (.ref a :: st) A Q := c_lcl i_97_0 rfl rfl
theorem q_97_1 : XX d 97 1 [v0, v1, v2, v3] (.ref a :: st) (mk S I L R G) Q ↔ S a = some (.inr 10) ∧ XX d 97 4 [v0, v1, v2, v3] (.ref (a + 3) :: st) (mk S I L R G) Q := r_gf i_97_1 rfl (by decide) rfl
theorem q_97_4 : XX d 97 4 [v0, v1, v2, v3] st A Q ↔ XX d 97 5 [v0, v1, v2, v3] (.int (w 0) :: st) A Q := c_stk i_97_4 rfl
theorem q_97_5 : XX (d + 1) 97 5 [v0, v1, v2, v3] [.int x1, .ref a0] A Q ↔ XC d 269 [.ref a0, .int x1] A (XK (d + 1) 97 5 [v0, v1, v2, v3] [] Q) := c_callS i_97_5 rfl rfl rfl rfl (Nat.le_of_ble_eq_true rfl) (Nat.le_of_ble_eq_true rfl)
theorem q_97_8 : XX d 97 8 [some (.ref a), v1, v2, v3] st A Q ↔ XX d 97 9 [some (.ref a), v1, v2, v3] (.ref a :: st) A Q := c_lcl i_97_8 rfl rfl
theorem q_97_9 : XX d 97 9 [v0, v1, v2, v3] st A Q ↔ XX d 97 10 [v0, v1, v2, v3] (.int (w 0) :: st) A Q := c_stk i_97_9 rfl
theorem q_97_10 : XX d 97 10 [v0, v1, v2, v3] (.int x :: .ref a :: st) (mk S I L R G) Q ↔ S a = some (.inr 10) ∧ XX d 97 13 [v0, v1, v2, v3] st (mk S (wr I a (up (I a) 3 x)) L R G) Q := r_pf i_97_10 rfl (by decide) rfl rfl rfl
theorem q_97_13 : XX d 97 13 [v0, v1, v2, v3] st A Q ↔ XX d 97 14 [v0, v1, v2, v3] (.int (w 0) :: st) A Q := c_stk i_97_13 rfl
theorem q_97_14 : XX d 97 14 [v0, v1, some (.int z), v3] (.int x :: st) A Q ↔ XX d 97 15 [v0, v1, some (.int z), some (.int x)] st A Q := c_lcl i_97_14 rfl rfl
theorem q_97_15 : XX d 97 15 [v0, v1, v2, some (.int x)] st A Q ↔ XX d 97 16 [v0, v1, v2, some (.int x)] (.int x :: st) A Q := c_lcl i_97_15 rfl rfl
theorem q_97_16 : XX d 97 16 [v0, v1, some (.int x), v3] st A Q ↔ XX d 97 17 [v0, v1, some (.int x), v3] (.int x :: st) A Q := c_lcl i_97_16 rfl rfl
theorem q_97_17 : XX d 97 17 [v0, v1, v2, v3] (.int y :: .int x :: st) A Q ↔ if y < x then XX d 97 61 [v0, v1, v2, v3] st A Q else XX d 97 20 [v0, v1, v2, v3] st A Q := b_gt i_97_17 rfl rfl rfl
theorem q_97_20 : XX d 97 20 [v0, some (.ref a), v2, v3] st A Q ↔ XX d 97 21 [v0, some (.ref a), v2, v3] (.ref a :: st) A Q := c_lcl i_97_20 rfl rfl
theorem q_97_21 : XX d 97 21 [v0, v1, v2, some (.int x)] st A Q ↔ XX d 97 22 [v0, v1, v2, some (.int x)] (.int x :: st) A Q := c_lcl i_97_21 rfl rfl
theorem q_97_22 : XX (d + 1) 97 22 [v0, v1, v2, v3] [.int x1, .ref a0] (mk S I L R G) Q ↔ S a0 = some (.inr 9) ∧ XC d 84 [.ref a0, .int x1] (mk S I L R G) (XK (d + 1) 97 22 [v0, v1, v2, v3] [] Q) := c_callV i_97_22 rfl rfl rfl rfl (Nat.le_of_ble_eq_true rfl) (Nat.le_of_ble_eq_true rfl) rfl
theorem q_97_25 : XX d 97 25 [v0, v1, v2, v3] (.int x :: st) A Q ↔ if x = w 0 then XX d 97 55 [v0, v1, v2, v3] st A Q else XX d 97 28 [v0, v1, v2, v3] st A Q := z_eq i_97_25 rfl rfl rfl
theorem q_97_28 : XX d 97 28 [some (.ref a), v1, v2, v3] st A Q ↔ XX d 97 29 [some (.ref a), v1, v2, v3] (.ref a :: st) A Q := c_lcl i_97_28 rfl rfl
theorem q_97_29 : XX d 97 29 [v0, some (.ref a), v2, v3] st A Q ↔ XX d 97 30 [v0, some (.ref a), v2, v3] (.ref a :: st) A Q := c_lcl i_97_29 rfl rfl
theorem q_97_30 : XX d 97 30 [v0, v1, v2, v3] (.ref a :: st) (mk S I L R G) Q ↔ S a = some (.inr 9) ∧ XX d 97 33 [v0, v1, v2, v3] (.ref (a + 1) :: st) (mk S I L R G) Q := r_gf i_97_30 rfl (by decide) rfl
theorem q_97_33 : XX d 97 33 [v0, v1, v2, v3] (.ref a :: st) (mk S I L R G) Q ↔ S a = some (.inr 4) ∧ XX d 97 36 [v0, v1, v2, v3] (.ref (a + 1) :: st) (mk S I L R G) Q := r_gf i_97_33 rfl (by decide) rfl
theorem q_97_36 : XX d 97 36 [v0, some (.ref a), v2, v3] st A Q ↔ XX d 97 37 [v0, some (.ref a), v2, v3] (.ref a :: st) A Q := c_lcl i_97_36 rfl rfl
theorem q_97_37 : XX d 97 37 [v0, v1, v2, v3] (.ref a :: st) (mk S I L R G) Q ↔ S a = some (.inr 9) ∧ XX d 97 40 [v0, v1, v2, v3] (.ref (a + 1) :: st) (mk S I L R G) Q := r_gf i_97_37 rfl (by decide) rfl
theorem q_97_40 : XX d 97 40 [v0, v1, v2, some (.int x)] st A Q ↔ XX d 97 41 [v0, v1, v2, some (.int x)] (.int x :: st) A Q := c_lcl i_97_40 rfl rfl
theorem q_97_41 : XX (d + 1) 97 41 [v0, v1, v2, v3] [.int x1, .ref a0, .ref a2, .ref a3] (mk S I L R G) Q ↔ S a0 = some (.inr 4) ∧ XC d 31 [.ref a0, .int x1] (mk S I L R G) (XK (d + 1) 97 41 [v0, v1, v2, v3] [.ref a2, .ref a3] Q) := c_callV i_97_41 rfl rfl rfl rfl (Nat.le_of_ble_eq_true rfl) (Nat.le_of_ble_eq_true rfl) rfl
theorem q_97_44 : XX d 97 44 [v0, some (.ref a), v2, v3] st A Q ↔ XX d 97 45 [v0, some (.ref a), v2, v3] (.ref a :: st) A Q := c_lcl i_97_44 rfl rfl
theorem q_97_45 : XX d 97 45 [v0, v1, v2, v3] (.ref a :: st) (mk S I L R G) Q ↔ S a = some (.inr 9) ∧ XX d 97 48 [v0, v1, v2, v3] (.ref (a + 1) :: st) (mk S I L R G) Q := r_gf i_97_45 rfl (by decide) rfl
theorem q_97_48 : XX d 97 48 [v0, v1, v2, some (.int x)] st A Q ↔ XX d 97 49 [v0, v1, v2, some (.int x)] (.int x :: st) A Q := c_lcl i_97_48 rfl rfl
theorem q_97_49 : XX (d + 1) 97 49 [v0, v1, v2, v3] [.int x1, .ref a0, .int x2, .ref a3, .ref a4] (mk S I L R G) Q ↔ S a0 = some (.inr 4) ∧ XC d 32 [.ref a0, .int x1] (mk S I L R G) (XK (d + 1) 97 49 [v0, v1, v2, v3] [.int x2, .ref a3, .ref a4] Q) := c_callV i_97_49 rfl rfl rfl rfl (Nat.le_of_ble_eq_true rfl) (Nat.le_of_ble_eq_true rfl) rfl
theorem q_97_52 : XX (d + 1) 97 52 [v0, v1, v2, v3] [.int x3, .int x2, .ref a1, .ref a0] (mk S I L R G) Q ↔ S a0 = some (.inr 10) ∧ XC d 98 [.ref a0, .ref a1, .int x2, .int x3] (mk S I L R G) (XK (d + 1) 97 52 [v0, v1, v2, v3] [] Q) := c_callV i_97_52 rfl rfl rfl rfl (Nat.le_of_ble_eq_true rfl) (Nat.le_of_ble_eq_true rfl) rfl
theorem q_97_55 : XX d 97 55 [v0, v1, some (.int z), some (.int x)] st A Q ↔ XX d 97 58 [v0, v1, some (.int z), some (.int (x + w 1))] st A Q := c_lcl i_97_55 rfl rfl
theorem q_97_58 : XX d 97 58 [v0, v1, v2, v3] st A Q ↔ XX d 97 15 [v0, v1, v2, v3] st A Q := c_go i_97_58 rfl rfl
theorem q_97_61 : XX d 97 61 [some (.ref a), v1, v2, v3] st A Q ↔ XX d 97 62 [some (.ref a), v1, v2, v3] (.ref a :: st) A Q := c_lcl i_97_61 rfl rfl
theorem q_97_62 : XX d 97 62 [v0, some (.ref a), v2, v3] st A Q ↔ XX d 97 63 [v0, some (.ref a), v2, v3] (.ref a :: st) A Q := c_lcl i_97_62 rfl rfl
theorem q_97_63 : XX d 97 63 [v0, v1, v2, v3] (.ref a :: st) (mk S I L R G) Q ↔ S a = some (.inr 9) ∧ XX d 97 66 [v0, v1, v2, v3] (.ref (a + 1) :: st) (mk S I L R G) Q := r_gf i_97_63 rfl (by decide) rfl
theorem q_97_66 : XX d 97 66 [v0, v1, v2, v3] (.ref a :: st) (mk S I L R G) Q ↔ S a = some (.inr 4) ∧ XX d 97 69 [v0, v1, v2, v3] (.ref (a + 1) :: st) (mk S I L R G) Q := r_gf i_97_66 rfl (by decide) rfl
theorem q_97_69 : XX (d + 1) 97 69 [v0, v1, v2, v3] [.ref a1, .ref a0] (mk S I L R G) Q ↔ S a0 = some (.inr 10) ∧ XC d 100 [.ref a0, .ref a1] (mk S I L R G) (XK (d + 1) 97 69 [v0, v1, v2, v3] [] Q) := c_callV i_97_69 rfl rfl rfl rfl (Nat.le_of_ble_eq_true rfl) (Nat.le_of_ble_eq_true rfl) rfl
theorem q_97_72 : XX d 97 72 [v0, v1, v2, v3] [] A Q ↔ Q (.inl none) A := e_retN i_97_72 rfl
theorem q_97_e : XC d 97 [.ref a0, .ref a1, .int x2] A Q ↔ XX d 97 0 [some (.ref a0), some (.ref a1), some (.int x2), none] [] A Q := Iff.rfl
theorem i_98_0 : t_ins 98 0 = some (.iload_n 2) := by decide +kernel
theorem i_98_1 : t_ins 98 1 = some (.iload_n 3) := by decide +kernel
theorem i_98_2 : t_ins 98 2 = some (.iadd) := by decide +kernel
theorem i_98_3 : t_ins 98 3 = some (.aload_n 1) := by decide +kernel
theorem i_98_4 : t_ins 98 4 = some (.arraylength) := by decide +kernel
theorem i_98_5 : t_ins 98 5 = some (.invokestatic 66) := by decide +kernel
theorem i_98_8 : t_ins 98 8 = some (.istore 4) := by decide +kernel
theorem i_98_10 : t_ins 98 10 = some (.iload_n 2) := by decide +kernel
theorem i_98_11 : t_ins 98 11 = some (.istore 5) := by decide +kernel
theorem i_98_13 : t_ins 98 13 = some (.iload_n 2) := by decide +kernel
theorem i_98_14 : t_ins 98 14 = some (.istore 6) := by decide +kernel
theorem i_98_16 : t_ins 98 16 = some (.iload 6) := by decide +kernel
theorem i_98_18 : t_ins 98 18 = some (.iload 4) := by decide +kernel
theorem i_98_20 : t_ins 98 20 = some (.if_icmp .gt 53) := by decide +kernel
theorem i_98_23 : t_ins 98 23 = some (.iload 6) := by decide +kernel
theorem i_98_25 : t_ins 98 25 = some (.iload 4) := by decide +kernel
theorem i_98_27 : t_ins 98 27 = some (.if_icmp .ge 15) := by decide +kernel
theorem i_98_30 : t_ins 98 30 = some (.aload_n 1) := by decide +kernel
theorem i_98_31 : t_ins 98 31 = some (.iload 6) := by decide +kernel
theorem i_98_33 : t_ins 98 33 = some (.baload) := by decide +kernel
theorem i_98_34 : t_ins 98 34 = some (.bipush 32) := by decide +kernel
theorem i_98_36 : t_ins 98 36 = some (.if_icmp .eq 6) := by decide +kernel
theorem i_98_39 : t_ins 98 39 = some (.goto 28) := by decide +kernel
theorem i_98_42 : t_ins 98 42 = some (.iload 6) := by decide +kernel
theorem i_98_44 : t_ins 98 44 = some (.iload 5) := by decide +kernel
theorem i_98_46 : t_ins 98 46 = some (.if_icmp .le 15) := by decide +kernel
theorem i_98_49 : t_ins 98 49 = some (.aload_n 0) := by decide +kernel
theorem i_98_50 : t_ins 98 50 = some (.aload_n 1) := by decide +kernel
theorem i_98_51 : t_ins 98 51 = some (.iload 5) := by decide +kernel
theorem i_98_53 : t_ins 98 53 = some (.iload 6) := by decide +kernel
theorem i_98_55 : t_ins 98 55 = some (.iload 5) := by decide +kernel
theorem i_98_57 : t_ins 98 57 = some (.isub) := by decide +kernel
theorem i_98_58 : t_ins 98 58 = some (.invokevirtual 72) := by decide +kernel
theorem i_98_61 : t_ins 98 61 = some (.iload 6) := by decide +kernel
theorem i_98_63 : t_ins 98 63 = some (.iconst 1) := by decide +kernel
theorem i_98_64 : t_ins 98 64 = some (.iadd) := by decide +kernel
theorem i_98_65 : t_ins 98 65 = some (.istore 5) := by decide +kernel
theorem i_98_67 : t_ins 98 67 = some (.iinc 6 1) := by decide +kernel
theorem i_98_70 : t_ins 98 70 = some (.goto (-54)) := by decide +kernel
theorem i_98_73 : t_ins 98 73 = some (.return_) := by decide +kernel
theorem q_98_0 : XX d 98 0 [v0, v1, some (.int x), v3, v4, v5, v6] st A Q ↔ XX d 98 1 [v0, v1, some (.int x), v3, v4, v5, v6] (.int x :: st) A Q := c_lcl i_98_0 rfl rfl
theorem q_98_1 : XX d 98 1 [v0, v1, v2, some (.int x), v4, v5, v6] st A Q ↔ XX d 98 2 [v0, v1, v2, some (.int x), v4, v5, v6] (.int x :: st) A Q := c_lcl i_98_1 rfl rfl
theorem q_98_2 : XX d 98 2 [v0, v1, v2, v3, v4, v5, v6] (.int y :: .int x :: st) A Q ↔ XX d 98 3 [v0, v1, v2, v3, v4, v5, v6] (.int (x + y) :: st) A Q := c_stk i_98_2 rfl
theorem q_98_3 : XX d 98 3 [v0, some (.ref a), v2, v3, v4, v5, v6] st A Q ↔ XX d 98 4 [v0, some (.ref a), v2, v3, v4, v5, v6] (.ref a :: st) A Q := c_lcl i_98_3 rfl rfl
theorem q_98_4 : XX d 98 4 [v0, v1, v2, v3, v4, v5, v6] (.ref a :: st) (mk S I L R G) Q ↔ alP (S a) (fun n => XX d 98 5 [v0, v1, v2, v3, v4, v5, v6] (.int n :: st) (mk S I L R G) Q) := r_al i_98_4
theorem q_98_5 : XX d 98 5 [v0, v1, v2, v3, v4, v5, v6] [.int y, .int x] A Q ↔ XX d 98 8 [v0, v1, v2, v3, v4, v5, v6] [.int (if y < x then y else x)] A Q := r_min i_98_5 rfl rfl (Nat.le_of_ble_eq_true rfl)
theorem q_98_8 : XX d 98 8 [v0, v1, v2, some (.int z), v4, v5, v6] (.int x :: st) A Q ↔ XX d 98 10 [v0, v1, v2, some (.int z), some (.int x), v5, v6] st A Q := c_lcl i_98_8 rfl rfl
theorem q_98_10 : XX d 98 10 [v0, v1, some (.int x), v3, v4, v5, v6] st A Q ↔ XX d 98 11 [v0, v1, some (.int x), v3, v4, v5, v6] (.int x :: st) A Q := c_lcl i_98_10 rfl rfl
theorem q_98_11 : XX d 98 11 [v0, v1, v2, v3, some (.int z), v5, v6] (.int x :: st) A Q ↔ XX d 98 13 [v0, v1, v2, v3, some (.int z), some (.int x), v6] st A Q := c_lcl i_98_11 rfl rfl
theorem q_98_13 : XX d 98 13 [v0, v1, some (.int x), v3, v4, v5, v6] st A Q ↔ XX d 98 14 [v0, v1, some (.int x), v3, v4, v5, v6] (.int x :: st) A Q := c_lcl i_98_13 rfl rfl
theorem q_98_14 : XX d 98 14 [v0, v1, v2, v3, v4, some (.int z), v6] (.int x :: st) A Q ↔ XX d 98 16 [v0, v1, v2, v3, v4, some (.int z), some (.int x)] st A Q := c_lcl i_98_14 rfl rfl
theorem q_98_16 : XX d 98 16 [v0, v1, v2, v3, v4, v5, some (.int x)] st A Q ↔ XX d 98 18 [v0, v1, v2, v3, v4, v5, some (.int x)] (.int x :: st) A Q := c_lcl i_98_16 rfl rfl
theorem q_98_18 : XX d 98 18 [v0, v1, v2, v3, some (.int x), v5, v6] st A Q ↔ XX d 98 20 [v0, v1, v2, v3, some (.int x), v5, v6] (.int x :: st) A Q := c_lcl i_98_18 rfl rfl
theorem q_98_20 : XX d 98 20 [v0, v1, v2, v3, v4, v5, v6] (.int y :: .int x :: st) A Q ↔ if y < x then XX d 98 73 [v0, v1, v2, v3, v4, v5, v6] st A Q else XX d 98 23 [v0, v1, v2, v3, v4, v5, v6] st A Q := b_gt i_98_20 rfl rfl rfl
theorem q_98_23 : XX d 98 23 [v0, v1, v2, v3, v4, v5, some (.int x)] st A Q ↔ XX d 98 25 [v0, v1, v2, v3, v4, v5, some (.int x)] (.int x :: st) A Q := c_lcl i_98_23 rfl rfl
theorem q_98_25 : XX d 98 25 [v0, v1, v2, v3, some (.int x), v5, v6] st A Q ↔ XX d 98 27 [v0, v1, v2, v3, some (.int x), v5, v6] (.int x :: st) A Q := c_lcl i_98_25 rfl rfl
theorem q_98_27 : XX d 98 27 [v0, v1, v2, v3, v4, v5, v6] (.int y :: .int x :: st) A Q ↔ if x < y then XX d 98 30 [v0, v1, v2, v3, v4, v5, v6] st A Q else XX d 98 42 [v0, v1, v2, v3, v4, v5, v6] st A Q := b_ge i_98_27 rfl rfl rfl
theorem q_98_30 : XX d 98 30 [v0, some (.ref a), v2, v3, v4, v5, v6] st A Q ↔ XX d 98 31 [v0, some (.ref a), v2, v3, v4, v5, v6] (.ref a :: st) A Q := c_lcl i_98_30 rfl rfl
theorem q_98_31 : XX d 98 31 [v0, v1, v2, v3, v4, v5, some (.int x)] st A Q ↔ XX d 98 33 [v0, v1, v2, v3, v4, v5, some (.int x)] (.int x :: st) A Q := c_lcl i_98_31 rfl rfl
theorem q_98_33 : XX d 98 33 [v0, v1, v2, v3, v4, v5, v6] (.int x :: .ref a :: st) (mk S I L R G) Q ↔ inA (S a) ok_b x ∧ XX d 98 34 [v0, v1, v2, v3, v4, v5, v6] (.int (I a (ix x)) :: st) (mk S I L R G) Q := r_ba i_98_33
theorem q_98_34 : XX d 98 34 [v0, v1, v2, v3, v4, v5, v6] st A Q ↔ XX d 98 36 [v0, v1, v2, v3, v4, v5, v6] (.int (w 32) :: st) A Q := c_stk i_98_34 rfl
theorem q_98_36 : XX d 98 36 [v0, v1, v2, v3, v4, v5, v6] (.int y :: .int x :: st) A Q ↔ if x = y then XX d 98 42 [v0, v1, v2, v3, v4, v5, v6] st A Q else XX d 98 39 [v0, v1, v2, v3, v4, v5, v6] st A Q := b_eq i_98_36 rfl rfl rfl
theorem q_98_39 : XX d 98 39 [v0, v1, v2, v3, v4, v5, v6] st A Q ↔ XX d 98 67 [v0, v1, v2, v3, v4, v5, v6] st A Q := c_go i_98_39 rfl rfl
theorem q_98_42 : XX d 98 42 [v0, v1, v2, v3, v4, v5, some (.int x)] st A Q ↔ XX d 98 44 [v0, v1, v2, v3, v4, v5, some (.int x)] (.int x :: st) A Q := c_lcl i_98_42 rfl rfl
theorem q_98_44 : XX d 98 44 [v0, v1, v2, v3, v4, some (.int x), v6] st A Q ↔ XX d 98 46 [v0, v1, v2, v3, v4, some (.int x), v6] (.int x :: st) A Q := c_lcl i_98_44 rfl rfl
theorem q_98_46 : XX d 98 46 [v0, v1, v2, v3, v4, v5, v6] (.int y :: .int x :: st) A Q ↔ if y < x then XX d 98 49 [v0, v1, v2, v3, v4, v5, v6] st A Q else XX d 98 61 [v0, v1, v2, v3, v4, v5, v6] st A Q := b_le i_98_46 rfl rfl rfl
theorem q_98_49 : XX d 98 49 [some (.ref a), v1, v2, v3, v4, v5, v6] st A Q ↔ XX d 98 50 [some (.ref a), v1, v2, v3, v4, v5, v6] (.ref a :: st) A Q := c_lcl i_98_49 rfl rfl
theorem q_98_50 : XX d 98 50 [v0, some (.ref a), v2, v3, v4, v5, v6] st A Q ↔ XX d 98 51 [v0, some (.ref a), v2, v3, v4, v5, v6] (.ref a :: st) A Q := c_lcl i_98_50 rfl rfl
theorem q_98_51 : XX d 98 51 [v0, v1, v2, v3, v4, some (.int x), v6] st A Q ↔ XX d 98 53 [v0, v1, v2, v3, v4, some (.int x), v6] (.int x :: st) A Q := c_lcl i_98_51 rfl rfl
theorem q_98_53 : XX d 98 53 [v0, v1, v2, v3, v4, v5, some (.int x)] st A Q ↔ XX d 98 55 [v0, v1, v2, v3, v4, v5, some (.int x)] (.int x :: st) A Q := c_lcl i_98_53 rfl rfl
theorem q_98_55 : XX d 98 55 [v0, v1, v2, v3, v4, some (.int x), v6] st A Q ↔ XX d 98 57 [v0, v1, v2, v3, v4, some (.int x), v6] (.int x :: st) A Q := c_lcl i_98_55 rfl rfl
theorem q_98_57 : XX d 98 57 [v0, v1, v2, v3, v4, v5, v6] (.int y :: .int x :: st) A Q ↔ XX d 98 58 [v0, v1, v2, v3, v4, v5, v6] (.int (x - y) :: st) A Q := c_stk i_98_57 rfl
theorem q_98_58 : XX (d + 1) 98 58 [v0, v1, v2, v3, v4, v5, v6] [.int x3, .int x2, .ref a1, .ref a0] (mk S I L R G) Q ↔ S a0 = some (.inr 10) ∧ XC d 99 [.ref a0, .ref a1, .int x2, .int x3] (mk S I L R G) (XK (d + 1) 98 58 [v0, v1, v2, v3, v4, v5, v6] [] Q) := c_callV i_98_58 rfl rfl rfl rfl (Nat.le_of_ble_eq_true rfl) (Nat.le_of_ble_eq_true rfl) rfl
theorem q_98_61 : XX d 98 61 [v0, v1, v2, v3, v4, v5, some (.int x)] st A Q ↔ XX d 98 63 [v0, v1, v2, v3, v4, v5, some (.int x)] (.int x :: st) A Q := c_lcl i_98_61 rfl rfl
theorem q_98_63 : XX d 98 63 [v0, v1, v2, v3, v4, v5, v6] st A Q ↔ XX d 98 64 [v0, v1, v2, v3, v4, v5, v6] (.int (w 1) :: st) A Q := c_stk i_98_63 rfl
theorem q_98_64 : XX d 98 64 [v0, v1, v2, v3, v4, v5, v6] (.int y :: .int x :: st) A Q ↔ XX d 98 65 [v0, v1, v2, v3, v4, v5, v6] (.int (x + y) :: st) A Q := c_stk i_98_64 rfl
theorem q_98_65 : XX d 98 65 [v0, v1, v2, v3, some (.int z), v5, v6] (.int x :: st) A Q ↔ XX d 98 67 [v0, v1, v2, v3, some (.int z), some (.int x), v6] st A Q := c_lcl i_98_65 rfl rfl
theorem q_98_67 : XX d 98 67 [v0, v1, v2, v3, v4, some (.int z), some (.int x)] st A Q ↔ XX d 98 70 [v0, v1, v2, v3, v4, some (.int z), some (.int (x + w 1))] st A Q := c_lcl i_98_67 rfl rfl
theorem q_98_70 : XX d 98 70 [v0, v1, v2, v3, v4, v5, v6] st A Q ↔ XX d 98 16 [v0, v1, v2, v3, v4, v5, v6] st A Q := c_go i_98_70 rfl rfl
theorem q_98_73 : XX d 98 73 [v0, v1, v2, v3, v4, v5, v6] [] A Q ↔ Q (.inl none) A := e_retN i_98_73 rfl
theorem q_98_e : XC d 98 [.ref a0, .ref a1, .int x2, .int x3] A Q ↔ XX d 98 0 [some (.ref a0), some (.ref a1), some (.int x2), some (.int x3), none, none, none] [] A Q := Iff.rfl
end

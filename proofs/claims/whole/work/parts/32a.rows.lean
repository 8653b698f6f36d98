/-! rows of methods 0 to 24 -/
section
variable {d : Nat} {Q : XO → Hp → Prop} {S : SH} {I : MI} {L : ML} {R : MR} {G : MG} {A : Hp} {st : List Value} {x y z x0 x1 x2 x3 x4 x5 x6 x7 x8 x9 : Int32} {lx ly l0 l1 l2 l3 l4 l5 l6 : Int64} {t kk jj a b a0 a1 a2 a3 a4 a5 a6 a7 a8 a9 : Nat} {o o0 o1 o2 o3 o4 : Option Nat} {v0 v1 v2 v3 v4 v5 v6 v7 v8 v9 v10 v11 v12 v13 v14 v15 v16 v17 v18 v19 v20 : Option Value}
theorem i_0_0 : t_ins 0 0 = some (.aload_n 0) := by decide +kernel
theorem i_0_1 : t_ins 0 1 = some (.invokespecial 3) := by decide +kernel
theorem i_0_4 : t_ins 0 4 = some (.aload_n 0) := by decide +kernel
theorem i_0_5 : t_ins 0 5 = some (.bipush 60) := by decide +kernel
theorem i_0_7 : t_ins 0 7 = some (.anewarray 9) := by decide +kernel
theorem i_0_10 : t_ins 0 10 = some (.putfield 11) := by decide +kernel
theorem i_0_13 : t_ins 0 13 = some (.aload_n 0) := by decide +kernel
theorem i_0_14 : t_ins 0 14 = some (.iconst 2) := by decide +kernel
theorem i_0_15 : t_ins 0 15 = some (.newarray .int) := by decide +kernel
theorem i_0_17 : t_ins 0 17 = some (.putfield 17) := by decide +kernel
theorem i_0_20 : t_ins 0 20 = some (.aload_n 0) := by decide +kernel
theorem i_0_21 : t_ins 0 21 = some (.bipush 100) := by decide +kernel
theorem i_0_23 : t_ins 0 23 = some (.putfield 21) := by decide +kernel
theorem i_0_26 : t_ins 0 26 = some (.return_) := by decide +kernel
theorem q_0_0 : XX d 0 0 [some (.ref a)] st A Q ↔ XX d 0 1 [some (.ref a)] (.ref a :: st) A Q := c_lcl i_0_0 rfl rfl
theorem q_0_4 : XX d 0 4 [some (.ref a)] st A Q ↔ XX d 0 5 [some (.ref a)] (.ref a :: st) A Q := c_lcl i_0_4 rfl rfl
theorem q_0_5 : XX d 0 5 [v0] st A Q ↔ XX d 0 7 [v0] (.int (w 60) :: st) A Q := c_stk i_0_5 rfl
theorem q_0_13 : XX d 0 13 [some (.ref a)] st A Q ↔ XX d 0 14 [some (.ref a)] (.ref a :: st) A Q := c_lcl i_0_13 rfl rfl
theorem q_0_14 : XX d 0 14 [v0] st A Q ↔ XX d 0 15 [v0] (.int (w 2) :: st) A Q := c_stk i_0_14 rfl
theorem q_0_20 : XX d 0 20 [some (.ref a)] st A Q ↔ XX d 0 21 [some (.ref a)] (.ref a :: st) A Q := c_lcl i_0_20 rfl rfl
theorem q_0_21 : XX d 0 21 [v0] st A Q ↔ XX d 0 23 [v0] (.int (w 100) :: st) A Q := c_stk i_0_21 rfl
theorem q_0_26 : XX d 0 26 [v0] [] A Q ↔ Q (.inl none) A := e_retN i_0_26 rfl
theorem q_0_e : XC d 0 [.ref a0] A Q ↔ XX d 0 0 [some (.ref a0)] [] A Q := Iff.rfl
theorem i_1_0 : t_ins 1 0 = some (.iload_n 1) := by decide +kernel
theorem i_1_1 : t_ins 1 1 = some (.ifCond .lt 21) := by decide +kernel
theorem i_1_4 : t_ins 1 4 = some (.iload_n 1) := by decide +kernel
theorem i_1_5 : t_ins 1 5 = some (.aload_n 0) := by decide +kernel
theorem i_1_6 : t_ins 1 6 = some (.getfield 17) := by decide +kernel
theorem i_1_9 : t_ins 1 9 = some (.arraylength) := by decide +kernel
theorem i_1_10 : t_ins 1 10 = some (.if_icmp .ge 12) := by decide +kernel
theorem i_1_13 : t_ins 1 13 = some (.aload_n 0) := by decide +kernel
theorem i_1_14 : t_ins 1 14 = some (.getfield 17) := by decide +kernel
theorem i_1_17 : t_ins 1 17 = some (.iload_n 1) := by decide +kernel
theorem i_1_18 : t_ins 1 18 = some (.iaload) := by decide +kernel
theorem i_1_19 : t_ins 1 19 = some (.goto 4) := by decide +kernel
theorem i_1_22 : t_ins 1 22 = some (.iconst 0) := by decide +kernel
theorem i_1_23 : t_ins 1 23 = some (.ireturn) := by decide +kernel
theorem q_1_0 : XX d 1 0 [v0, some (.int x)] st A Q ↔ XX d 1 1 [v0, some (.int x)] (.int x :: st) A Q := c_lcl i_1_0 rfl rfl
theorem q_1_1 : XX d 1 1 [v0, v1] (.int x :: st) A Q ↔ if x < w 0 then XX d 1 22 [v0, v1] st A Q else XX d 1 4 [v0, v1] st A Q := z_lt i_1_1 rfl rfl rfl
theorem q_1_4 : XX d 1 4 [v0, some (.int x)] st A Q ↔ XX d 1 5 [v0, some (.int x)] (.int x :: st) A Q := c_lcl i_1_4 rfl rfl
theorem q_1_5 : XX d 1 5 [some (.ref a), v1] st A Q ↔ XX d 1 6 [some (.ref a), v1] (.ref a :: st) A Q := c_lcl i_1_5 rfl rfl
theorem q_1_6 : XX d 1 6 [v0, v1] (.ref a :: st) (mk S I L R G) Q ↔ S a = some (.inr 0) ∧ XX d 1 9 [v0, v1] (.ref (a + 2) :: st) (mk S I L R G) Q := r_gf i_1_6 rfl (by decide) rfl
theorem q_1_9 : XX d 1 9 [v0, v1] (.ref a :: st) (mk S I L R G) Q ↔ alP (S a) (fun n => XX d 1 10 [v0, v1] (.int n :: st) (mk S I L R G) Q) := r_al i_1_9
theorem q_1_10 : XX d 1 10 [v0, v1] (.int y :: .int x :: st) A Q ↔ if x < y then XX d 1 13 [v0, v1] st A Q else XX d 1 22 [v0, v1] st A Q := b_ge i_1_10 rfl rfl rfl
theorem q_1_13 : XX d 1 13 [some (.ref a), v1] st A Q ↔ XX d 1 14 [some (.ref a), v1] (.ref a :: st) A Q := c_lcl i_1_13 rfl rfl
theorem q_1_14 : XX d 1 14 [v0, v1] (.ref a :: st) (mk S I L R G) Q ↔ S a = some (.inr 0) ∧ XX d 1 17 [v0, v1] (.ref (a + 2) :: st) (mk S I L R G) Q := r_gf i_1_14 rfl (by decide) rfl
theorem q_1_17 : XX d 1 17 [v0, some (.int x)] st A Q ↔ XX d 1 18 [v0, some (.int x)] (.int x :: st) A Q := c_lcl i_1_17 rfl rfl
theorem q_1_18 : XX d 1 18 [v0, v1] (.int x :: .ref a :: st) (mk S I L R G) Q ↔ inA (S a) ok_i x ∧ XX d 1 19 [v0, v1] (.int (I a (ix x)) :: st) (mk S I L R G) Q := r_ia i_1_18
theorem q_1_19 : XX d 1 19 [v0, v1] st A Q ↔ XX d 1 23 [v0, v1] st A Q := c_go i_1_19 rfl rfl
theorem q_1_22 : XX d 1 22 [v0, v1] st A Q ↔ XX d 1 23 [v0, v1] (.int (w 0) :: st) A Q := c_stk i_1_22 rfl
theorem q_1_23 : XX d 1 23 [v0, v1] [.int x] A Q ↔ Q (.inl (some (.int x))) A := e_retI i_1_23 rfl
theorem q_1_e : XC d 1 [.ref a0, .int x1] A Q ↔ XX d 1 0 [some (.ref a0), some (.int x1)] [] A Q := Iff.rfl
theorem i_2_0 : t_ins 2 0 = some (.iload_n 2) := by decide +kernel
theorem i_2_1 : t_ins 2 1 = some (.ifCond .lt 12) := by decide +kernel
theorem i_2_4 : t_ins 2 4 = some (.iload_n 2) := by decide +kernel
theorem i_2_5 : t_ins 2 5 = some (.aload_n 0) := by decide +kernel
theorem i_2_6 : t_ins 2 6 = some (.iload_n 1) := by decide +kernel
theorem i_2_7 : t_ins 2 7 = some (.invokevirtual 25) := by decide +kernel
theorem i_2_10 : t_ins 2 10 = some (.if_icmp .lt 5) := by decide +kernel
theorem i_2_13 : t_ins 2 13 = some (.aconst_null) := by decide +kernel
theorem i_2_14 : t_ins 2 14 = some (.areturn) := by decide +kernel
theorem i_2_15 : t_ins 2 15 = some (.iload_n 1) := by decide +kernel
theorem i_2_16 : t_ins 2 16 = some (.bipush 30) := by decide +kernel
theorem i_2_18 : t_ins 2 18 = some (.imul) := by decide +kernel
theorem i_2_19 : t_ins 2 19 = some (.iload_n 2) := by decide +kernel
theorem i_2_20 : t_ins 2 20 = some (.iadd) := by decide +kernel
theorem i_2_21 : t_ins 2 21 = some (.istore_n 3) := by decide +kernel
theorem i_2_22 : t_ins 2 22 = some (.iload_n 3) := by decide +kernel
theorem i_2_23 : t_ins 2 23 = some (.aload_n 0) := by decide +kernel
theorem i_2_24 : t_ins 2 24 = some (.getfield 11) := by decide +kernel
theorem i_2_27 : t_ins 2 27 = some (.arraylength) := by decide +kernel
theorem i_2_28 : t_ins 2 28 = some (.if_icmp .ge 12) := by decide +kernel
theorem i_2_31 : t_ins 2 31 = some (.aload_n 0) := by decide +kernel
theorem i_2_32 : t_ins 2 32 = some (.getfield 11) := by decide +kernel
theorem i_2_35 : t_ins 2 35 = some (.iload_n 3) := by decide +kernel
theorem i_2_36 : t_ins 2 36 = some (.aaload) := by decide +kernel
theorem i_2_37 : t_ins 2 37 = some (.goto 4) := by decide +kernel
theorem i_2_40 : t_ins 2 40 = some (.aconst_null) := by decide +kernel
theorem i_2_41 : t_ins 2 41 = some (.areturn) := by decide +kernel
theorem q_2_0 : XX d 2 0 [v0, v1, some (.int x), v3] st A Q ↔ XX d 2 1 [v0, v1, some (.int x), v3] (.int x :: st) A Q := c_lcl i_2_0 rfl rfl
theorem q_2_1 : XX d 2 1 [v0, v1, v2, v3] (.int x :: st) A Q ↔ if x < w 0 then XX d 2 13 [v0, v1, v2, v3] st A Q else XX d 2 4 [v0, v1, v2, v3] st A Q := z_lt i_2_1 rfl rfl rfl
theorem q_2_4 : XX d 2 4 [v0, v1, some (.int x), v3] st A Q ↔ XX d 2 5 [v0, v1, some (.int x), v3] (.int x :: st) A Q := c_lcl i_2_4 rfl rfl
theorem q_2_5 : XX d 2 5 [some (.ref a), v1, v2, v3] st A Q ↔ XX d 2 6 [some (.ref a), v1, v2, v3] (.ref a :: st) A Q := c_lcl i_2_5 rfl rfl
theorem q_2_6 : XX d 2 6 [v0, some (.int x), v2, v3] st A Q ↔ XX d 2 7 [v0, some (.int x), v2, v3] (.int x :: st) A Q := c_lcl i_2_6 rfl rfl
theorem q_2_7 : XX (d + 1) 2 7 [v0, v1, v2, v3] [.int x1, .ref a0, .int x2] (mk S I L R G) Q ↔ S a0 = some (.inr 0) ∧ XC d 1 [.ref a0, .int x1] (mk S I L R G) (XK (d + 1) 2 7 [v0, v1, v2, v3] [.int x2] Q) := c_callV i_2_7 rfl rfl rfl rfl (Nat.le_of_ble_eq_true rfl) (Nat.le_of_ble_eq_true rfl) rfl
theorem q_2_10 : XX d 2 10 [v0, v1, v2, v3] (.int y :: .int x :: st) A Q ↔ if x < y then XX d 2 15 [v0, v1, v2, v3] st A Q else XX d 2 13 [v0, v1, v2, v3] st A Q := b_lt i_2_10 rfl rfl rfl
theorem q_2_13 : XX d 2 13 [v0, v1, v2, v3] st A Q ↔ XX d 2 14 [v0, v1, v2, v3] (.null :: st) A Q := c_stk i_2_13 rfl
theorem q_2_14 : XX d 2 14 [v0, v1, v2, v3] [.null] A Q ↔ Q (.inl (some .null)) A := e_retU i_2_14 rfl
theorem q_2_15 : XX d 2 15 [v0, some (.int x), v2, v3] st A Q ↔ XX d 2 16 [v0, some (.int x), v2, v3] (.int x :: st) A Q := c_lcl i_2_15 rfl rfl
theorem q_2_16 : XX d 2 16 [v0, v1, v2, v3] st A Q ↔ XX d 2 18 [v0, v1, v2, v3] (.int (w 30) :: st) A Q := c_stk i_2_16 rfl
theorem q_2_18 : XX d 2 18 [v0, v1, v2, v3] (.int y :: .int x :: st) A Q ↔ XX d 2 19 [v0, v1, v2, v3] (.int (x * y) :: st) A Q := c_stk i_2_18 rfl
theorem q_2_19 : XX d 2 19 [v0, v1, some (.int x), v3] st A Q ↔ XX d 2 20 [v0, v1, some (.int x), v3] (.int x :: st) A Q := c_lcl i_2_19 rfl rfl
theorem q_2_20 : XX d 2 20 [v0, v1, v2, v3] (.int y :: .int x :: st) A Q ↔ XX d 2 21 [v0, v1, v2, v3] (.int (x + y) :: st) A Q := c_stk i_2_20 rfl
theorem q_2_21 : XX d 2 21 [v0, v1, some (.int z), v3] (.int x :: st) A Q ↔ XX d 2 22 [v0, v1, some (.int z), some (.int x)] st A Q := c_lcl i_2_21 rfl rfl
theorem q_2_22 : XX d 2 22 [v0, v1, v2, some (.int x)] st A Q ↔ XX d 2 23 [v0, v1, v2, some (.int x)] (.int x :: st) A Q := c_lcl i_2_22 rfl rfl
theorem q_2_23 : XX d 2 23 [some (.ref a), v1, v2, v3] st A Q ↔ XX d 2 24 [some (.ref a), v1, v2, v3] (.ref a :: st) A Q := c_lcl i_2_23 rfl rfl
theorem q_2_24 : XX d 2 24 [v0, v1, v2, v3] (.ref a :: st) (mk S I L R G) Q ↔ S a = some (.inr 0) ∧ XX d 2 27 [v0, v1, v2, v3] (.ref (a + 1) :: st) (mk S I L R G) Q := r_gf i_2_24 rfl (by decide) rfl
theorem q_2_27 : XX d 2 27 [v0, v1, v2, v3] (.ref a :: st) (mk S I L R G) Q ↔ alP (S a) (fun n => XX d 2 28 [v0, v1, v2, v3] (.int n :: st) (mk S I L R G) Q) := r_al i_2_27
theorem q_2_28 : XX d 2 28 [v0, v1, v2, v3] (.int y :: .int x :: st) A Q ↔ if x < y then XX d 2 31 [v0, v1, v2, v3] st A Q else XX d 2 40 [v0, v1, v2, v3] st A Q := b_ge i_2_28 rfl rfl rfl
theorem q_2_31 : XX d 2 31 [some (.ref a), v1, v2, v3] st A Q ↔ XX d 2 32 [some (.ref a), v1, v2, v3] (.ref a :: st) A Q := c_lcl i_2_31 rfl rfl
theorem q_2_32 : XX d 2 32 [v0, v1, v2, v3] (.ref a :: st) (mk S I L R G) Q ↔ S a = some (.inr 0) ∧ XX d 2 35 [v0, v1, v2, v3] (.ref (a + 1) :: st) (mk S I L R G) Q := r_gf i_2_32 rfl (by decide) rfl
theorem q_2_35 : XX d 2 35 [v0, v1, v2, some (.int x)] st A Q ↔ XX d 2 36 [v0, v1, v2, some (.int x)] (.int x :: st) A Q := c_lcl i_2_35 rfl rfl
theorem q_2_36 : XX d 2 36 [v0, v1, v2, v3] (.int x :: .ref a :: st) (mk S I L R G) Q ↔ inA (S a) ok_q x ∧ XX d 2 37 [v0, v1, v2, v3] (va_rf (R a (ix x)) :: st) (mk S I L R G) Q := r_aq i_2_36
theorem q_2_37 : XX d 2 37 [v0, v1, v2, v3] st A Q ↔ XX d 2 41 [v0, v1, v2, v3] st A Q := c_go i_2_37 rfl rfl
theorem q_2_40 : XX d 2 40 [v0, v1, v2, v3] st A Q ↔ XX d 2 41 [v0, v1, v2, v3] (.null :: st) A Q := c_stk i_2_40 rfl
theorem q_2_41 : XX d 2 41 [v0, v1, v2, v3] [.ref a] A Q ↔ Q (.inl (some (.ref a))) A := e_retA i_2_41 rfl
theorem q_2_41o : XX d 2 41 [v0, v1, v2, v3] [va_rf o] A Q ↔ Q (.inl (some (va_rf o))) A := e_retO i_2_41 rfl
theorem q_2_e : XC d 2 [.ref a0, .int x1, .int x2] A Q ↔ XX d 2 0 [some (.ref a0), some (.int x1), some (.int x2), none] [] A Q := Iff.rfl
theorem i_3_0 : t_ins 3 0 = some (.iload_n 1) := by decide +kernel
theorem i_3_1 : t_ins 3 1 = some (.ifCond .lt 19) := by decide +kernel
theorem i_3_4 : t_ins 3 4 = some (.iload_n 1) := by decide +kernel
theorem i_3_5 : t_ins 3 5 = some (.aload_n 0) := by decide +kernel
theorem i_3_6 : t_ins 3 6 = some (.getfield 17) := by decide +kernel
theorem i_3_9 : t_ins 3 9 = some (.arraylength) := by decide +kernel
theorem i_3_10 : t_ins 3 10 = some (.if_icmp .ge 10) := by decide +kernel
theorem i_3_13 : t_ins 3 13 = some (.aload_n 0) := by decide +kernel
theorem i_3_14 : t_ins 3 14 = some (.getfield 17) := by decide +kernel
theorem i_3_17 : t_ins 3 17 = some (.iload_n 1) := by decide +kernel
theorem i_3_18 : t_ins 3 18 = some (.iconst 0) := by decide +kernel
theorem i_3_19 : t_ins 3 19 = some (.iastore) := by decide +kernel
theorem i_3_20 : t_ins 3 20 = some (.return_) := by decide +kernel
theorem q_3_0 : XX d 3 0 [v0, some (.int x)] st A Q ↔ XX d 3 1 [v0, some (.int x)] (.int x :: st) A Q := c_lcl i_3_0 rfl rfl
theorem q_3_1 : XX d 3 1 [v0, v1] (.int x :: st) A Q ↔ if x < w 0 then XX d 3 20 [v0, v1] st A Q else XX d 3 4 [v0, v1] st A Q := z_lt i_3_1 rfl rfl rfl
theorem q_3_4 : XX d 3 4 [v0, some (.int x)] st A Q ↔ XX d 3 5 [v0, some (.int x)] (.int x :: st) A Q := c_lcl i_3_4 rfl rfl
theorem q_3_5 : XX d 3 5 [some (.ref a), v1] st A Q ↔ XX d 3 6 [some (.ref a), v1] (.ref a :: st) A Q := c_lcl i_3_5 rfl rfl
theorem q_3_6 : XX d 3 6 [v0, v1] (.ref a :: st) (mk S I L R G) Q ↔ S a = some (.inr 0) ∧ XX d 3 9 [v0, v1] (.ref (a + 2) :: st) (mk S I L R G) Q := r_gf i_3_6 rfl (by decide) rfl
theorem q_3_9 : XX d 3 9 [v0, v1] (.ref a :: st) (mk S I L R G) Q ↔ alP (S a) (fun n => XX d 3 10 [v0, v1] (.int n :: st) (mk S I L R G) Q) := r_al i_3_9
theorem q_3_10 : XX d 3 10 [v0, v1] (.int y :: .int x :: st) A Q ↔ if x < y then XX d 3 13 [v0, v1] st A Q else XX d 3 20 [v0, v1] st A Q := b_ge i_3_10 rfl rfl rfl
theorem q_3_13 : XX d 3 13 [some (.ref a), v1] st A Q ↔ XX d 3 14 [some (.ref a), v1] (.ref a :: st) A Q := c_lcl i_3_13 rfl rfl
theorem q_3_14 : XX d 3 14 [v0, v1] (.ref a :: st) (mk S I L R G) Q ↔ S a = some (.inr 0) ∧ XX d 3 17 [v0, v1] (.ref (a + 2) :: st) (mk S I L R G) Q := r_gf i_3_14 rfl (by decide) rfl
theorem q_3_17 : XX d 3 17 [v0, some (.int x)] st A Q ↔ XX d 3 18 [v0, some (.int x)] (.int x :: st) A Q := c_lcl i_3_17 rfl rfl
theorem q_3_18 : XX d 3 18 [v0, v1] st A Q ↔ XX d 3 19 [v0, v1] (.int (w 0) :: st) A Q := c_stk i_3_18 rfl
theorem q_3_19 : XX d 3 19 [v0, v1] (.int y :: .int x :: .ref a :: st) (mk S I L R G) Q ↔ inA (S a) ok_0 x ∧ XX d 3 20 [v0, v1] st (mk S (wr I a (up (I a) (ix x) y)) L R G) Q := r_ias i_3_19
theorem q_3_20 : XX d 3 20 [v0, v1] [] A Q ↔ Q (.inl none) A := e_retN i_3_20 rfl
theorem q_3_e : XC d 3 [.ref a0, .int x1] A Q ↔ XX d 3 0 [some (.ref a0), some (.int x1)] [] A Q := Iff.rfl
theorem i_4_0 : t_ins 4 0 = some (.aload_n 0) := by decide +kernel
theorem i_4_1 : t_ins 4 1 = some (.iload_n 1) := by decide +kernel
theorem i_4_2 : t_ins 4 2 = some (.invokevirtual 25) := by decide +kernel
theorem i_4_5 : t_ins 4 5 = some (.istore_n 3) := by decide +kernel
theorem i_4_6 : t_ins 4 6 = some (.iload_n 1) := by decide +kernel
theorem i_4_7 : t_ins 4 7 = some (.ifCond .lt 39) := by decide +kernel
theorem i_4_10 : t_ins 4 10 = some (.iload_n 1) := by decide +kernel
theorem i_4_11 : t_ins 4 11 = some (.aload_n 0) := by decide +kernel
theorem i_4_12 : t_ins 4 12 = some (.getfield 17) := by decide +kernel
theorem i_4_15 : t_ins 4 15 = some (.arraylength) := by decide +kernel
theorem i_4_16 : t_ins 4 16 = some (.if_icmp .ge 30) := by decide +kernel
theorem i_4_19 : t_ins 4 19 = some (.iload_n 3) := by decide +kernel
theorem i_4_20 : t_ins 4 20 = some (.bipush 30) := by decide +kernel
theorem i_4_22 : t_ins 4 22 = some (.if_icmp .ge 24) := by decide +kernel
theorem i_4_25 : t_ins 4 25 = some (.aload_n 0) := by decide +kernel
theorem i_4_26 : t_ins 4 26 = some (.getfield 11) := by decide +kernel
theorem i_4_29 : t_ins 4 29 = some (.iload_n 1) := by decide +kernel
theorem i_4_30 : t_ins 4 30 = some (.bipush 30) := by decide +kernel
theorem i_4_32 : t_ins 4 32 = some (.imul) := by decide +kernel
theorem i_4_33 : t_ins 4 33 = some (.iload_n 3) := by decide +kernel
theorem i_4_34 : t_ins 4 34 = some (.iadd) := by decide +kernel
theorem i_4_35 : t_ins 4 35 = some (.aload_n 2) := by decide +kernel
theorem i_4_36 : t_ins 4 36 = some (.aastore) := by decide +kernel
theorem i_4_37 : t_ins 4 37 = some (.aload_n 0) := by decide +kernel
theorem i_4_38 : t_ins 4 38 = some (.getfield 17) := by decide +kernel
theorem i_4_41 : t_ins 4 41 = some (.iload_n 1) := by decide +kernel
theorem i_4_42 : t_ins 4 42 = some (.iload_n 3) := by decide +kernel
theorem i_4_43 : t_ins 4 43 = some (.iconst 1) := by decide +kernel
theorem i_4_44 : t_ins 4 44 = some (.iadd) := by decide +kernel
theorem i_4_45 : t_ins 4 45 = some (.iastore) := by decide +kernel
theorem i_4_46 : t_ins 4 46 = some (.return_) := by decide +kernel
theorem q_4_0 : XX d 4 0 [some (.ref a), v1, v2, v3] st A Q ↔ XX d 4 1 [some (.ref a), v1, v2, v3] (.ref a :: st) A Q := c_lcl i_4_0 rfl rfl
theorem q_4_1 : XX d 4 1 [v0, some (.int x), v2, v3] st A Q ↔ XX d 4 2 [v0, some (.int x), v2, v3] (.int x :: st) A Q := c_lcl i_4_1 rfl rfl
theorem q_4_2 : XX (d + 1) 4 2 [v0, v1, v2, v3] [.int x1, .ref a0] (mk S I L R G) Q ↔ S a0 = some (.inr 0) ∧ XC d 1 [.ref a0, .int x1] (mk S I L R G) (XK (d + 1) 4 2 [v0, v1, v2, v3] [] Q) := c_callV i_4_2 rfl rfl rfl rfl (Nat.le_of_ble_eq_true rfl) (Nat.le_of_ble_eq_true rfl) rfl
theorem q_4_5 : XX d 4 5 [v0, v1, some (.ref b), v3] (.int x :: st) A Q ↔ XX d 4 6 [v0, v1, some (.ref b), some (.int x)] st A Q := c_lcl i_4_5 rfl rfl
theorem q_4_6 : XX d 4 6 [v0, some (.int x), v2, v3] st A Q ↔ XX d 4 7 [v0, some (.int x), v2, v3] (.int x :: st) A Q := c_lcl i_4_6 rfl rfl
theorem q_4_7 : XX d 4 7 [v0, v1, v2, v3] (.int x :: st) A Q ↔ if x < w 0 then XX d 4 46 [v0, v1, v2, v3] st A Q else XX d 4 10 [v0, v1, v2, v3] st A Q := z_lt i_4_7 rfl rfl rfl
theorem q_4_10 : XX d 4 10 [v0, some (.int x), v2, v3] st A Q ↔ XX d 4 11 [v0, some (.int x), v2, v3] (.int x :: st) A Q := c_lcl i_4_10 rfl rfl
theorem q_4_11 : XX d 4 11 [some (.ref a), v1, v2, v3] st A Q ↔ XX d 4 12 [some (.ref a), v1, v2, v3] (.ref a :: st) A Q := c_lcl i_4_11 rfl rfl
theorem q_4_12 : XX d 4 12 [v0, v1, v2, v3] (.ref a :: st) (mk S I L R G) Q ↔ S a = some (.inr 0) ∧ XX d 4 15 [v0, v1, v2, v3] (.ref (a + 2) :: st) (mk S I L R G) Q := r_gf i_4_12 rfl (by decide) rfl
theorem q_4_15 : XX d 4 15 [v0, v1, v2, v3] (.ref a :: st) (mk S I L R G) Q ↔ alP (S a) (fun n => XX d 4 16 [v0, v1, v2, v3] (.int n :: st) (mk S I L R G) Q) := r_al i_4_15
theorem q_4_16 : XX d 4 16 [v0, v1, v2, v3] (.int y :: .int x :: st) A Q ↔ if x < y then XX d 4 19 [v0, v1, v2, v3] st A Q else XX d 4 46 [v0, v1, v2, v3] st A Q := b_ge i_4_16 rfl rfl rfl
theorem q_4_19 : XX d 4 19 [v0, v1, v2, some (.int x)] st A Q ↔ XX d 4 20 [v0, v1, v2, some (.int x)] (.int x :: st) A Q := c_lcl i_4_19 rfl rfl
theorem q_4_20 : XX d 4 20 [v0, v1, v2, v3] st A Q ↔ XX d 4 22 [v0, v1, v2, v3] (.int (w 30) :: st) A Q := c_stk i_4_20 rfl
theorem q_4_22 : XX d 4 22 [v0, v1, v2, v3] (.int y :: .int x :: st) A Q ↔ if x < y then XX d 4 25 [v0, v1, v2, v3] st A Q else XX d 4 46 [v0, v1, v2, v3] st A Q := b_ge i_4_22 rfl rfl rfl
theorem q_4_25 : XX d 4 25 [some (.ref a), v1, v2, v3] st A Q ↔ XX d 4 26 [some (.ref a), v1, v2, v3] (.ref a :: st) A Q := c_lcl i_4_25 rfl rfl
theorem q_4_26 : XX d 4 26 [v0, v1, v2, v3] (.ref a :: st) (mk S I L R G) Q ↔ S a = some (.inr 0) ∧ XX d 4 29 [v0, v1, v2, v3] (.ref (a + 1) :: st) (mk S I L R G) Q := r_gf i_4_26 rfl (by decide) rfl
theorem q_4_29 : XX d 4 29 [v0, some (.int x), v2, v3] st A Q ↔ XX d 4 30 [v0, some (.int x), v2, v3] (.int x :: st) A Q := c_lcl i_4_29 rfl rfl
theorem q_4_30 : XX d 4 30 [v0, v1, v2, v3] st A Q ↔ XX d 4 32 [v0, v1, v2, v3] (.int (w 30) :: st) A Q := c_stk i_4_30 rfl
theorem q_4_32 : XX d 4 32 [v0, v1, v2, v3] (.int y :: .int x :: st) A Q ↔ XX d 4 33 [v0, v1, v2, v3] (.int (x * y) :: st) A Q := c_stk i_4_32 rfl
theorem q_4_33 : XX d 4 33 [v0, v1, v2, some (.int x)] st A Q ↔ XX d 4 34 [v0, v1, v2, some (.int x)] (.int x :: st) A Q := c_lcl i_4_33 rfl rfl
theorem q_4_34 : XX d 4 34 [v0, v1, v2, v3] (.int y :: .int x :: st) A Q ↔ XX d 4 35 [v0, v1, v2, v3] (.int (x + y) :: st) A Q := c_stk i_4_34 rfl
theorem q_4_35 : XX d 4 35 [v0, v1, some (.ref a), v3] st A Q ↔ XX d 4 36 [v0, v1, some (.ref a), v3] (.ref a :: st) A Q := c_lcl i_4_35 rfl rfl
theorem q_4_36 : XX d 4 36 [v0, v1, v2, v3] (.ref b :: .int x :: .ref a :: st) (mk S I L R G) Q ↔ aqP (S a) S (some b) x ∧ XX d 4 37 [v0, v1, v2, v3] st (mk S I L (wr R a (up (R a) (ix x) (some b))) G) Q := r_aqs i_4_36
theorem q_4_36o : XX d 4 36 [v0, v1, v2, v3] (va_rf o :: .int x :: .ref a :: st) (mk S I L R G) Q ↔ aqP (S a) S o x ∧ XX d 4 37 [v0, v1, v2, v3] st (mk S I L (wr R a (up (R a) (ix x) o)) G) Q := r_aqo i_4_36
theorem q_4_37 : XX d 4 37 [some (.ref a), v1, v2, v3] st A Q ↔ XX d 4 38 [some (.ref a), v1, v2, v3] (.ref a :: st) A Q := c_lcl i_4_37 rfl rfl
theorem q_4_38 : XX d 4 38 [v0, v1, v2, v3] (.ref a :: st) (mk S I L R G) Q ↔ S a = some (.inr 0) ∧ XX d 4 41 [v0, v1, v2, v3] (.ref (a + 2) :: st) (mk S I L R G) Q := r_gf i_4_38 rfl (by decide) rfl
theorem q_4_41 : XX d 4 41 [v0, some (.int x), v2, v3] st A Q ↔ XX d 4 42 [v0, some (.int x), v2, v3] (.int x :: st) A Q := c_lcl i_4_41 rfl rfl
theorem q_4_42 : XX d 4 42 [v0, v1, v2, some (.int x)] st A Q ↔ XX d 4 43 [v0, v1, v2, some (.int x)] (.int x :: st) A Q := c_lcl i_4_42 rfl rfl
theorem q_4_43 : XX d 4 43 [v0, v1, v2, v3] st A Q ↔ XX d 4 44 [v0, v1, v2, v3] (.int (w 1) :: st) A Q := c_stk i_4_43 rfl
theorem q_4_44 : XX d 4 44 [v0, v1, v2, v3] (.int y :: .int x :: st) A Q ↔ XX d 4 45 [v0, v1, v2, v3] (.int (x + y) :: st) A Q := c_stk i_4_44 rfl
theorem q_4_45 : XX d 4 45 [v0, v1, v2, v3] (.int y :: .int x :: .ref a :: st) (mk S I L R G) Q ↔ inA (S a) ok_0 x ∧ XX d 4 46 [v0, v1, v2, v3] st (mk S (wr I a (up (I a) (ix x) y)) L R G) Q := r_ias i_4_45
theorem q_4_46 : XX d 4 46 [v0, v1, v2, v3] [] A Q ↔ Q (.inl none) A := e_retN i_4_46 rfl
theorem q_4_e : XC d 4 [.ref a0, .int x1, .ref a2] A Q ↔ XX d 4 0 [some (.ref a0), some (.int x1), some (.ref a2), none] [] A Q := Iff.rfl
theorem i_5_0 : t_ins 5 0 = some (.aload_n 0) := by decide +kernel
theorem i_5_1 : t_ins 5 1 = some (.iload_n 1) := by decide +kernel
theorem i_5_2 : t_ins 5 2 = some (.invokevirtual 25) := by decide +kernel
theorem i_5_5 : t_ins 5 5 = some (.istore_n 3) := by decide +kernel
theorem i_5_6 : t_ins 5 6 = some (.iload_n 2) := by decide +kernel
theorem i_5_7 : t_ins 5 7 = some (.ifCond .lt 14) := by decide +kernel
theorem i_5_10 : t_ins 5 10 = some (.iload_n 2) := by decide +kernel
theorem i_5_11 : t_ins 5 11 = some (.iload_n 3) := by decide +kernel
theorem i_5_12 : t_ins 5 12 = some (.if_icmp .ge 9) := by decide +kernel
theorem i_5_15 : t_ins 5 15 = some (.iload_n 3) := by decide +kernel
theorem i_5_16 : t_ins 5 16 = some (.bipush 30) := by decide +kernel
theorem i_5_18 : t_ins 5 18 = some (.if_icmp .le 4) := by decide +kernel
theorem i_5_21 : t_ins 5 21 = some (.return_) := by decide +kernel
theorem i_5_22 : t_ins 5 22 = some (.iload_n 1) := by decide +kernel
theorem i_5_23 : t_ins 5 23 = some (.bipush 30) := by decide +kernel
theorem i_5_25 : t_ins 5 25 = some (.imul) := by decide +kernel
theorem i_5_26 : t_ins 5 26 = some (.istore 4) := by decide +kernel
theorem i_5_28 : t_ins 5 28 = some (.iload_n 2) := by decide +kernel
theorem i_5_29 : t_ins 5 29 = some (.istore 5) := by decide +kernel
theorem i_5_31 : t_ins 5 31 = some (.iload 5) := by decide +kernel
theorem i_5_33 : t_ins 5 33 = some (.iconst 1) := by decide +kernel
theorem i_5_34 : t_ins 5 34 = some (.iadd) := by decide +kernel
theorem i_5_35 : t_ins 5 35 = some (.iload_n 3) := by decide +kernel
theorem i_5_36 : t_ins 5 36 = some (.if_icmp .ge 31) := by decide +kernel
theorem i_5_39 : t_ins 5 39 = some (.aload_n 0) := by decide +kernel
theorem i_5_40 : t_ins 5 40 = some (.getfield 11) := by decide +kernel
theorem i_5_43 : t_ins 5 43 = some (.iload 4) := by decide +kernel
theorem i_5_45 : t_ins 5 45 = some (.iload 5) := by decide +kernel
theorem i_5_47 : t_ins 5 47 = some (.iadd) := by decide +kernel
theorem i_5_48 : t_ins 5 48 = some (.aload_n 0) := by decide +kernel
theorem i_5_49 : t_ins 5 49 = some (.getfield 11) := by decide +kernel
theorem i_5_52 : t_ins 5 52 = some (.iload 4) := by decide +kernel
theorem i_5_54 : t_ins 5 54 = some (.iload 5) := by decide +kernel
theorem i_5_56 : t_ins 5 56 = some (.iadd) := by decide +kernel
theorem i_5_57 : t_ins 5 57 = some (.iconst 1) := by decide +kernel
theorem i_5_58 : t_ins 5 58 = some (.iadd) := by decide +kernel
theorem i_5_59 : t_ins 5 59 = some (.aaload) := by decide +kernel
theorem i_5_60 : t_ins 5 60 = some (.aastore) := by decide +kernel
theorem i_5_61 : t_ins 5 61 = some (.iinc 5 1) := by decide +kernel
theorem i_5_64 : t_ins 5 64 = some (.goto (-33)) := by decide +kernel
theorem i_5_67 : t_ins 5 67 = some (.aload_n 0) := by decide +kernel
theorem i_5_68 : t_ins 5 68 = some (.getfield 17) := by decide +kernel
theorem i_5_71 : t_ins 5 71 = some (.iload_n 1) := by decide +kernel
theorem i_5_72 : t_ins 5 72 = some (.iload_n 3) := by decide +kernel
theorem i_5_73 : t_ins 5 73 = some (.iconst 1) := by decide +kernel
theorem i_5_74 : t_ins 5 74 = some (.isub) := by decide +kernel
theorem i_5_75 : t_ins 5 75 = some (.iastore) := by decide +kernel
theorem i_5_76 : t_ins 5 76 = some (.return_) := by decide +kernel
theorem q_5_0 : XX d 5 0 [some (.ref a), v1, v2, v3, v4, v5] st A Q ↔ XX d 5 1 [some (.ref a), v1, v2, v3, v4, v5] (.ref a :: st) A Q := c_lcl i_5_0 rfl rfl
theorem q_5_1 : XX d 5 1 [v0, some (.int x), v2, v3, v4, v5] st A Q ↔ XX d 5 2 [v0, some (.int x), v2, v3, v4, v5] (.int x :: st) A Q := c_lcl i_5_1 rfl rfl
theorem q_5_2 : XX (d + 1) 5 2 [v0, v1, v2, v3, v4, v5] [.int x1, .ref a0] (mk S I L R G) Q ↔ S a0 = some (.inr 0) ∧ XC d 1 [.ref a0, .int x1] (mk S I L R G) (XK (d + 1) 5 2 [v0, v1, v2, v3, v4, v5] [] Q) := c_callV i_5_2 rfl rfl rfl rfl (Nat.le_of_ble_eq_true rfl) (Nat.le_of_ble_eq_true rfl) rfl
theorem q_5_5 : XX d 5 5 [v0, v1, some (.int z), v3, v4, v5] (.int x :: st) A Q ↔ XX d 5 6 [v0, v1, some (.int z), some (.int x), v4, v5] st A Q := c_lcl i_5_5 rfl rfl
theorem q_5_6 : XX d 5 6 [v0, v1, some (.int x), v3, v4, v5] st A Q ↔ XX d 5 7 [v0, v1, some (.int x), v3, v4, v5] (.int x :: st) A Q := c_lcl i_5_6 rfl rfl
theorem q_5_7 : XX d 5 7 [v0, v1, v2, v3, v4, v5] (.int x :: st) A Q ↔ if x < w 0 then XX d 5 21 [v0, v1, v2, v3, v4, v5] st A Q else XX d 5 10 [v0, v1, v2, v3, v4, v5] st A Q := z_lt i_5_7 rfl rfl rfl
theorem q_5_10 : XX d 5 10 [v0, v1, some (.int x), v3, v4, v5] st A Q ↔ XX d 5 11 [v0, v1, some (.int x), v3, v4, v5] (.int x :: st) A Q := c_lcl i_5_10 rfl rfl
theorem q_5_11 : XX d 5 11 [v0, v1, v2, some (.int x), v4, v5] st A Q ↔ XX d 5 12 [v0, v1, v2, some (.int x), v4, v5] (.int x :: st) A Q := c_lcl i_5_11 rfl rfl
theorem q_5_12 : XX d 5 12 [v0, v1, v2, v3, v4, v5] (.int y :: .int x :: st) A Q ↔ if x < y then XX d 5 15 [v0, v1, v2, v3, v4, v5] st A Q else XX d 5 21 [v0, v1, v2, v3, v4, v5] st A Q := b_ge i_5_12 rfl rfl rfl
theorem q_5_15 : XX d 5 15 [v0, v1, v2, some (.int x), v4, v5] st A Q ↔ XX d 5 16 [v0, v1, v2, some (.int x), v4, v5] (.int x :: st) A Q := c_lcl i_5_15 rfl rfl
theorem q_5_16 : XX d 5 16 [v0, v1, v2, v3, v4, v5] st A Q ↔ XX d 5 18 [v0, v1, v2, v3, v4, v5] (.int (w 30) :: st) A Q := c_stk i_5_16 rfl
theorem q_5_18 : XX d 5 18 [v0, v1, v2, v3, v4, v5] (.int y :: .int x :: st) A Q ↔ if y < x then XX d 5 21 [v0, v1, v2, v3, v4, v5] st A Q else XX d 5 22 [v0, v1, v2, v3, v4, v5] st A Q := b_le i_5_18 rfl rfl rfl
theorem q_5_21 : XX d 5 21 [v0, v1, v2, v3, v4, v5] [] A Q ↔ Q (.inl none) A := e_retN i_5_21 rfl
theorem q_5_22 : XX d 5 22 [v0, some (.int x), v2, v3, v4, v5] st A Q ↔ XX d 5 23 [v0, some (.int x), v2, v3, v4, v5] (.int x :: st) A Q := c_lcl i_5_22 rfl rfl
theorem q_5_23 : XX d 5 23 [v0, v1, v2, v3, v4, v5] st A Q ↔ XX d 5 25 [v0, v1, v2, v3, v4, v5] (.int (w 30) :: st) A Q := c_stk i_5_23 rfl
theorem q_5_25 : XX d 5 25 [v0, v1, v2, v3, v4, v5] (.int y :: .int x :: st) A Q ↔ XX d 5 26 [v0, v1, v2, v3, v4, v5] (.int (x * y) :: st) A Q := c_stk i_5_25 rfl
theorem q_5_26 : XX d 5 26 [v0, v1, v2, some (.int z), v4, v5] (.int x :: st) A Q ↔ XX d 5 28 [v0, v1, v2, some (.int z), some (.int x), v5] st A Q := c_lcl i_5_26 rfl rfl
theorem q_5_28 : XX d 5 28 [v0, v1, some (.int x), v3, v4, v5] st A Q ↔ XX d 5 29 [v0, v1, some (.int x), v3, v4, v5] (.int x :: st) A Q := c_lcl i_5_28 rfl rfl
theorem q_5_29 : XX d 5 29 [v0, v1, v2, v3, some (.int z), v5] (.int x :: st) A Q ↔ XX d 5 31 [v0, v1, v2, v3, some (.int z), some (.int x)] st A Q := c_lcl i_5_29 rfl rfl
theorem q_5_31 : XX d 5 31 [v0, v1, v2, v3, v4, some (.int x)] st A Q ↔ XX d 5 33 [v0, v1, v2, v3, v4, some (.int x)] (.int x :: st) A Q := c_lcl i_5_31 rfl rfl
theorem q_5_33 : XX d 5 33 [v0, v1, v2, v3, v4, v5] st A Q ↔ XX d 5 34 [v0, v1, v2, v3, v4, v5] (.int (w 1) :: st) A Q := c_stk i_5_33 rfl
theorem q_5_34 : XX d 5 34 [v0, v1, v2, v3, v4, v5] (.int y :: .int x :: st) A Q ↔ XX d 5 35 [v0, v1, v2, v3, v4, v5] (.int (x + y) :: st) A Q := c_stk i_5_34 rfl
theorem q_5_35 : XX d 5 35 [v0, v1, v2, some (.int x), v4, v5] st A Q ↔ XX d 5 36 [v0, v1, v2, some (.int x), v4, v5] (.int x :: st) A Q := c_lcl i_5_35 rfl rfl
theorem q_5_36 : XX d 5 36 [v0, v1, v2, v3, v4, v5] (.int y :: .int x :: st) A Q ↔ if x < y then XX d 5 39 [v0, v1, v2, v3, v4, v5] st A Q else XX d 5 67 [v0, v1, v2, v3, v4, v5] st A Q := b_ge i_5_36 rfl rfl rfl
theorem q_5_39 : XX d 5 39 [some (.ref a), v1, v2, v3, v4, v5] st A Q ↔ XX d 5 40 [some (.ref a), v1, v2, v3, v4, v5] (.ref a :: st) A Q := c_lcl i_5_39 rfl rfl
theorem q_5_40 : XX d 5 40 [v0, v1, v2, v3, v4, v5] (.ref a :: st) (mk S I L R G) Q ↔ S a = some (.inr 0) ∧ XX d 5 43 [v0, v1, v2, v3, v4, v5] (.ref (a + 1) :: st) (mk S I L R G) Q := r_gf i_5_40 rfl (by decide) rfl
theorem q_5_43 : XX d 5 43 [v0, v1, v2, v3, some (.int x), v5] st A Q ↔ XX d 5 45 [v0, v1, v2, v3, some (.int x), v5] (.int x :: st) A Q := c_lcl i_5_43 rfl rfl
theorem q_5_45 : XX d 5 45 [v0, v1, v2, v3, v4, some (.int x)] st A Q ↔ XX d 5 47 [v0, v1, v2, v3, v4, some (.int x)] (.int x :: st) A Q := c_lcl i_5_45 rfl rfl
theorem q_5_47 : XX d 5 47 [v0, v1, v2, v3, v4, v5] (.int y :: .int x :: st) A Q ↔ XX d 5 48 [v0, v1, v2, v3, v4, v5] (.int (x + y) :: st) A Q := c_stk i_5_47 rfl
theorem q_5_48 : XX d 5 48 [some (.ref a), v1, v2, v3, v4, v5] st A Q ↔ XX d 5 49 [some (.ref a), v1, v2, v3, v4, v5] (.ref a :: st) A Q := c_lcl i_5_48 rfl rfl
theorem q_5_49 : XX d 5 49 [v0, v1, v2, v3, v4, v5] (.ref a :: st) (mk S I L R G) Q ↔ S a = some (.inr 0) ∧ XX d 5 52 [v0, v1, v2, v3, v4, v5] (.ref (a + 1) :: st) (mk S I L R G) Q := r_gf i_5_49 rfl (by decide) rfl
theorem q_5_52 : XX d 5 52 [v0, v1, v2, v3, some (.int x), v5] st A Q ↔ XX d 5 54 [v0, v1, v2, v3, some (.int x), v5] (.int x :: st) A Q := c_lcl i_5_52 rfl rfl
theorem q_5_54 : XX d 5 54 [v0, v1, v2, v3, v4, some (.int x)] st A Q ↔ XX d 5 56 [v0, v1, v2, v3, v4, some (.int x)] (.int x :: st) A Q := c_lcl i_5_54 rfl rfl
theorem q_5_56 : XX d 5 56 [v0, v1, v2, v3, v4, v5] (.int y :: .int x :: st) A Q ↔ XX d 5 57 [v0, v1, v2, v3, v4, v5] (.int (x + y) :: st) A Q := c_stk i_5_56 rfl
theorem q_5_57 : XX d 5 57 [v0, v1, v2, v3, v4, v5] st A Q ↔ XX d 5 58 [v0, v1, v2, v3, v4, v5] (.int (w 1) :: st) A Q := c_stk i_5_57 rfl
theorem q_5_58 : XX d 5 58 [v0, v1, v2, v3, v4, v5] (.int y :: .int x :: st) A Q ↔ XX d 5 59 [v0, v1, v2, v3, v4, v5] (.int (x + y) :: st) A Q := c_stk i_5_58 rfl
theorem q_5_59 : XX d 5 59 [v0, v1, v2, v3, v4, v5] (.int x :: .ref a :: st) (mk S I L R G) Q ↔ inA (S a) ok_q x ∧ XX d 5 60 [v0, v1, v2, v3, v4, v5] (va_rf (R a (ix x)) :: st) (mk S I L R G) Q := r_aq i_5_59
theorem q_5_60 : XX d 5 60 [v0, v1, v2, v3, v4, v5] (.ref b :: .int x :: .ref a :: st) (mk S I L R G) Q ↔ aqP (S a) S (some b) x ∧ XX d 5 61 [v0, v1, v2, v3, v4, v5] st (mk S I L (wr R a (up (R a) (ix x) (some b))) G) Q := r_aqs i_5_60
theorem q_5_60o : XX d 5 60 [v0, v1, v2, v3, v4, v5] (va_rf o :: .int x :: .ref a :: st) (mk S I L R G) Q ↔ aqP (S a) S o x ∧ XX d 5 61 [v0, v1, v2, v3, v4, v5] st (mk S I L (wr R a (up (R a) (ix x) o)) G) Q := r_aqo i_5_60
theorem q_5_61 : XX d 5 61 [v0, v1, v2, v3, some (.int z), some (.int x)] st A Q ↔ XX d 5 64 [v0, v1, v2, v3, some (.int z), some (.int (x + w 1))] st A Q := c_lcl i_5_61 rfl rfl
theorem q_5_64 : XX d 5 64 [v0, v1, v2, v3, v4, v5] st A Q ↔ XX d 5 31 [v0, v1, v2, v3, v4, v5] st A Q := c_go i_5_64 rfl rfl
theorem q_5_67 : XX d 5 67 [some (.ref a), v1, v2, v3, v4, v5] st A Q ↔ XX d 5 68 [some (.ref a), v1, v2, v3, v4, v5] (.ref a :: st) A Q := c_lcl i_5_67 rfl rfl
theorem q_5_68 : XX d 5 68 [v0, v1, v2, v3, v4, v5] (.ref a :: st) (mk S I L R G) Q ↔ S a = some (.inr 0) ∧ XX d 5 71 [v0, v1, v2, v3, v4, v5] (.ref (a + 2) :: st) (mk S I L R G) Q := r_gf i_5_68 rfl (by decide) rfl
theorem q_5_71 : XX d 5 71 [v0, some (.int x), v2, v3, v4, v5] st A Q ↔ XX d 5 72 [v0, some (.int x), v2, v3, v4, v5] (.int x :: st) A Q := c_lcl i_5_71 rfl rfl
theorem q_5_72 : XX d 5 72 [v0, v1, v2, some (.int x), v4, v5] st A Q ↔ XX d 5 73 [v0, v1, v2, some (.int x), v4, v5] (.int x :: st) A Q := c_lcl i_5_72 rfl rfl
theorem q_5_73 : XX d 5 73 [v0, v1, v2, v3, v4, v5] st A Q ↔ XX d 5 74 [v0, v1, v2, v3, v4, v5] (.int (w 1) :: st) A Q := c_stk i_5_73 rfl
theorem q_5_74 : XX d 5 74 [v0, v1, v2, v3, v4, v5] (.int y :: .int x :: st) A Q ↔ XX d 5 75 [v0, v1, v2, v3, v4, v5] (.int (x - y) :: st) A Q := c_stk i_5_74 rfl
theorem q_5_75 : XX d 5 75 [v0, v1, v2, v3, v4, v5] (.int y :: .int x :: .ref a :: st) (mk S I L R G) Q ↔ inA (S a) ok_0 x ∧ XX d 5 76 [v0, v1, v2, v3, v4, v5] st (mk S (wr I a (up (I a) (ix x) y)) L R G) Q := r_ias i_5_75
theorem q_5_76 : XX d 5 76 [v0, v1, v2, v3, v4, v5] [] A Q ↔ Q (.inl none) A := e_retN i_5_76 rfl
theorem q_5_e : XC d 5 [.ref a0, .int x1, .int x2] A Q ↔ XX d 5 0 [some (.ref a0), some (.int x1), some (.int x2), none, none, none] [] A Q := Iff.rfl
theorem i_6_0 : t_ins 6 0 = some (.iload_n 2) := by decide +kernel
theorem i_6_1 : t_ins 6 1 = some (.iconst 1) := by decide +kernel
theorem i_6_2 : t_ins 6 2 = some (.if_icmp .lt 12) := by decide +kernel
theorem i_6_5 : t_ins 6 5 = some (.iload_n 2) := by decide +kernel
theorem i_6_6 : t_ins 6 6 = some (.aload_n 0) := by decide +kernel
theorem i_6_7 : t_ins 6 7 = some (.iload_n 1) := by decide +kernel
theorem i_6_8 : t_ins 6 8 = some (.invokevirtual 25) := by decide +kernel
theorem i_6_11 : t_ins 6 11 = some (.if_icmp .lt 4) := by decide +kernel
theorem i_6_14 : t_ins 6 14 = some (.return_) := by decide +kernel
theorem i_6_15 : t_ins 6 15 = some (.iload_n 1) := by decide +kernel
theorem i_6_16 : t_ins 6 16 = some (.bipush 30) := by decide +kernel
theorem i_6_18 : t_ins 6 18 = some (.imul) := by decide +kernel
theorem i_6_19 : t_ins 6 19 = some (.iload_n 2) := by decide +kernel
theorem i_6_20 : t_ins 6 20 = some (.iadd) := by decide +kernel
theorem i_6_21 : t_ins 6 21 = some (.istore_n 3) := by decide +kernel
theorem i_6_22 : t_ins 6 22 = some (.aload_n 0) := by decide +kernel
theorem i_6_23 : t_ins 6 23 = some (.getfield 11) := by decide +kernel
theorem i_6_26 : t_ins 6 26 = some (.iload_n 3) := by decide +kernel
theorem i_6_27 : t_ins 6 27 = some (.aaload) := by decide +kernel
theorem i_6_28 : t_ins 6 28 = some (.astore 4) := by decide +kernel
theorem i_6_30 : t_ins 6 30 = some (.aload_n 0) := by decide +kernel
theorem i_6_31 : t_ins 6 31 = some (.getfield 11) := by decide +kernel
theorem i_6_34 : t_ins 6 34 = some (.iload_n 3) := by decide +kernel
theorem i_6_35 : t_ins 6 35 = some (.aload_n 0) := by decide +kernel
theorem i_6_36 : t_ins 6 36 = some (.getfield 11) := by decide +kernel
theorem i_6_39 : t_ins 6 39 = some (.iload_n 3) := by decide +kernel
theorem i_6_40 : t_ins 6 40 = some (.iconst 1) := by decide +kernel
theorem i_6_41 : t_ins 6 41 = some (.isub) := by decide +kernel
theorem i_6_42 : t_ins 6 42 = some (.aaload) := by decide +kernel
theorem i_6_43 : t_ins 6 43 = some (.aastore) := by decide +kernel
theorem i_6_44 : t_ins 6 44 = some (.aload_n 0) := by decide +kernel
theorem i_6_45 : t_ins 6 45 = some (.getfield 11) := by decide +kernel
theorem i_6_48 : t_ins 6 48 = some (.iload_n 3) := by decide +kernel
theorem i_6_49 : t_ins 6 49 = some (.iconst 1) := by decide +kernel
theorem i_6_50 : t_ins 6 50 = some (.isub) := by decide +kernel
theorem i_6_51 : t_ins 6 51 = some (.aload 4) := by decide +kernel
theorem i_6_53 : t_ins 6 53 = some (.aastore) := by decide +kernel
theorem i_6_54 : t_ins 6 54 = some (.return_) := by decide +kernel
theorem q_6_0 : XX d 6 0 [v0, v1, some (.int x), v3, v4] st A Q ↔ XX d 6 1 [v0, v1, some (.int x), v3, v4] (.int x :: st) A Q := c_lcl i_6_0 rfl rfl
theorem q_6_1 : XX d 6 1 [v0, v1, v2, v3, v4] st A Q ↔ XX d 6 2 [v0, v1, v2, v3, v4] (.int (w 1) :: st) A Q := c_stk i_6_1 rfl
theorem q_6_2 : XX d 6 2 [v0, v1, v2, v3, v4] (.int y :: .int x :: st) A Q ↔ if x < y then XX d 6 14 [v0, v1, v2, v3, v4] st A Q else XX d 6 5 [v0, v1, v2, v3, v4] st A Q := b_lt i_6_2 rfl rfl rfl
theorem q_6_5 : XX d 6 5 [v0, v1, some (.int x), v3, v4] st A Q ↔ XX d 6 6 [v0, v1, some (.int x), v3, v4] (.int x :: st) A Q := c_lcl i_6_5 rfl rfl
theorem q_6_6 : XX d 6 6 [some (.ref a), v1, v2, v3, v4] st A Q ↔ XX d 6 7 [some (.ref a), v1, v2, v3, v4] (.ref a :: st) A Q := c_lcl i_6_6 rfl rfl
theorem q_6_7 : XX d 6 7 [v0, some (.int x), v2, v3, v4] st A Q ↔ XX d 6 8 [v0, some (.int x), v2, v3, v4] (.int x :: st) A Q := c_lcl i_6_7 rfl rfl
theorem q_6_8 : XX (d + 1) 6 8 [v0, v1, v2, v3, v4] [.int x1, .ref a0, .int x2] (mk S I L R G) Q ↔ S a0 = some (.inr 0) ∧ XC d 1 [.ref a0, .int x1] (mk S I L R G) (XK (d + 1) 6 8 [v0, v1, v2, v3, v4] [.int x2] Q) := c_callV i_6_8 rfl rfl rfl rfl (Nat.le_of_ble_eq_true rfl) (Nat.le_of_ble_eq_true rfl) rfl
theorem q_6_11 : XX d 6 11 [v0, v1, v2, v3, v4] (.int y :: .int x :: st) A Q ↔ if x < y then XX d 6 15 [v0, v1, v2, v3, v4] st A Q else XX d 6 14 [v0, v1, v2, v3, v4] st A Q := b_lt i_6_11 rfl rfl rfl
theorem q_6_14 : XX d 6 14 [v0, v1, v2, v3, v4] [] A Q ↔ Q (.inl none) A := e_retN i_6_14 rfl
theorem q_6_15 : XX d 6 15 [v0, some (.int x), v2, v3, v4] st A Q ↔ XX d 6 16 [v0, some (.int x), v2, v3, v4] (.int x :: st) A Q := c_lcl i_6_15 rfl rfl
theorem q_6_16 : XX d 6 16 [v0, v1, v2, v3, v4] st A Q ↔ XX d 6 18 [v0, v1, v2, v3, v4] (.int (w 30) :: st) A Q := c_stk i_6_16 rfl
theorem q_6_18 : XX d 6 18 [v0, v1, v2, v3, v4] (.int y :: .int x :: st) A Q ↔ XX d 6 19 [v0, v1, v2, v3, v4] (.int (x * y) :: st) A Q := c_stk i_6_18 rfl
theorem q_6_19 : XX d 6 19 [v0, v1, some (.int x), v3, v4] st A Q ↔ XX d 6 20 [v0, v1, some (.int x), v3, v4] (.int x :: st) A Q := c_lcl i_6_19 rfl rfl
theorem q_6_20 : XX d 6 20 [v0, v1, v2, v3, v4] (.int y :: .int x :: st) A Q ↔ XX d 6 21 [v0, v1, v2, v3, v4] (.int (x + y) :: st) A Q := c_stk i_6_20 rfl
theorem q_6_21 : XX d 6 21 [v0, v1, some (.int z), v3, v4] (.int x :: st) A Q ↔ XX d 6 22 [v0, v1, some (.int z), some (.int x), v4] st A Q := c_lcl i_6_21 rfl rfl
theorem q_6_22 : XX d 6 22 [some (.ref a), v1, v2, v3, v4] st A Q ↔ XX d 6 23 [some (.ref a), v1, v2, v3, v4] (.ref a :: st) A Q := c_lcl i_6_22 rfl rfl
theorem q_6_23 : XX d 6 23 [v0, v1, v2, v3, v4] (.ref a :: st) (mk S I L R G) Q ↔ S a = some (.inr 0) ∧ XX d 6 26 [v0, v1, v2, v3, v4] (.ref (a + 1) :: st) (mk S I L R G) Q := r_gf i_6_23 rfl (by decide) rfl
theorem q_6_26 : XX d 6 26 [v0, v1, v2, some (.int x), v4] st A Q ↔ XX d 6 27 [v0, v1, v2, some (.int x), v4] (.int x :: st) A Q := c_lcl i_6_26 rfl rfl
theorem q_6_27 : XX d 6 27 [v0, v1, v2, v3, v4] (.int x :: .ref a :: st) (mk S I L R G) Q ↔ inA (S a) ok_q x ∧ XX d 6 28 [v0, v1, v2, v3, v4] (va_rf (R a (ix x)) :: st) (mk S I L R G) Q := r_aq i_6_27
theorem q_6_28 : XX d 6 28 [v0, v1, v2, some (.int z), v4] (.ref a :: st) A Q ↔ XX d 6 30 [v0, v1, v2, some (.int z), some (.ref a)] st A Q := c_lcl i_6_28 rfl rfl
theorem q_6_28o : XX d 6 28 [v0, v1, v2, some (.int z), v4] (va_rf o :: st) A Q ↔ XX d 6 30 [v0, v1, v2, some (.int z), some (va_rf o)] st A Q := by cases o <;> exact c_lcl i_6_28 rfl rfl
theorem q_6_30 : XX d 6 30 [some (.ref a), v1, v2, v3, v4] st A Q ↔ XX d 6 31 [some (.ref a), v1, v2, v3, v4] (.ref a :: st) A Q := c_lcl i_6_30 rfl rfl
theorem q_6_31 : XX d 6 31 [v0, v1, v2, v3, v4] (.ref a :: st) (mk S I L R G) Q ↔ S a = some (.inr 0) ∧ XX d 6 34 [v0, v1, v2, v3, v4] (.ref (a + 1) :: st) (mk S I L R G) Q := r_gf i_6_31 rfl (by decide) rfl
theorem q_6_34 : XX d 6 34 [v0, v1, v2, some (.int x), v4] st A Q ↔ XX d 6 35 [v0, v1, v2, some (.int x), v4] (.int x :: st) A Q := c_lcl i_6_34 rfl rfl
theorem q_6_35 : XX d 6 35 [some (.ref a), v1, v2, v3, v4] st A Q ↔ XX d 6 36 [some (.ref a), v1, v2, v3, v4] (.ref a :: st) A Q := c_lcl i_6_35 rfl rfl
theorem q_6_36 : XX d 6 36 [v0, v1, v2, v3, v4] (.ref a :: st) (mk S I L R G) Q ↔ S a = some (.inr 0) ∧ XX d 6 39 [v0, v1, v2, v3, v4] (.ref (a + 1) :: st) (mk S I L R G) Q := r_gf i_6_36 rfl (by decide) rfl
theorem q_6_39 : XX d 6 39 [v0, v1, v2, some (.int x), v4] st A Q ↔ XX d 6 40 [v0, v1, v2, some (.int x), v4] (.int x :: st) A Q := c_lcl i_6_39 rfl rfl
theorem q_6_40 : XX d 6 40 [v0, v1, v2, v3, v4] st A Q ↔ XX d 6 41 [v0, v1, v2, v3, v4] (.int (w 1) :: st) A Q := c_stk i_6_40 rfl
theorem q_6_41 : XX d 6 41 [v0, v1, v2, v3, v4] (.int y :: .int x :: st) A Q ↔ XX d 6 42 [v0, v1, v2, v3, v4] (.int (x - y) :: st) A Q := c_stk i_6_41 rfl
theorem q_6_42 : XX d 6 42 [v0, v1, v2, v3, v4] (.int x :: .ref a :: st) (mk S I L R G) Q ↔ inA (S a) ok_q x ∧ XX d 6 43 [v0, v1, v2, v3, v4] (va_rf (R a (ix x)) :: st) (mk S I L R G) Q := r_aq i_6_42
theorem q_6_43 : XX d 6 43 [v0, v1, v2, v3, v4] (.ref b :: .int x :: .ref a :: st) (mk S I L R G) Q ↔ aqP (S a) S (some b) x ∧ XX d 6 44 [v0, v1, v2, v3, v4] st (mk S I L (wr R a (up (R a) (ix x) (some b))) G) Q := r_aqs i_6_43
theorem q_6_43o : XX d 6 43 [v0, v1, v2, v3, v4] (va_rf o :: .int x :: .ref a :: st) (mk S I L R G) Q ↔ aqP (S a) S o x ∧ XX d 6 44 [v0, v1, v2, v3, v4] st (mk S I L (wr R a (up (R a) (ix x) o)) G) Q := r_aqo i_6_43
theorem q_6_44 : XX d 6 44 [some (.ref a), v1, v2, v3, v4] st A Q ↔ XX d 6 45 [some (.ref a), v1, v2, v3, v4] (.ref a :: st) A Q := c_lcl i_6_44 rfl rfl
theorem q_6_45 : XX d 6 45 [v0, v1, v2, v3, v4] (.ref a :: st) (mk S I L R G) Q ↔ S a = some (.inr 0) ∧ XX d 6 48 [v0, v1, v2, v3, v4] (.ref (a + 1) :: st) (mk S I L R G) Q := r_gf i_6_45 rfl (by decide) rfl
theorem q_6_48 : XX d 6 48 [v0, v1, v2, some (.int x), v4] st A Q ↔ XX d 6 49 [v0, v1, v2, some (.int x), v4] (.int x :: st) A Q := c_lcl i_6_48 rfl rfl
theorem q_6_49 : XX d 6 49 [v0, v1, v2, v3, v4] st A Q ↔ XX d 6 50 [v0, v1, v2, v3, v4] (.int (w 1) :: st) A Q := c_stk i_6_49 rfl
theorem q_6_50 : XX d 6 50 [v0, v1, v2, v3, v4] (.int y :: .int x :: st) A Q ↔ XX d 6 51 [v0, v1, v2, v3, v4] (.int (x - y) :: st) A Q := c_stk i_6_50 rfl
theorem q_6_51 : XX d 6 51 [v0, v1, v2, v3, some (.ref a)] st A Q ↔ XX d 6 53 [v0, v1, v2, v3, some (.ref a)] (.ref a :: st) A Q := c_lcl i_6_51 rfl rfl
theorem q_6_51o : XX d 6 51 [v0, v1, v2, v3, some (va_rf o)] st A Q ↔ XX d 6 53 [v0, v1, v2, v3, some (va_rf o)] (va_rf o :: st) A Q := by cases o <;> exact c_lcl i_6_51 rfl rfl
theorem q_6_53 : XX d 6 53 [v0, v1, v2, v3, v4] (.ref b :: .int x :: .ref a :: st) (mk S I L R G) Q ↔ aqP (S a) S (some b) x ∧ XX d 6 54 [v0, v1, v2, v3, v4] st (mk S I L (wr R a (up (R a) (ix x) (some b))) G) Q := r_aqs i_6_53
theorem q_6_53o : XX d 6 53 [v0, v1, v2, v3, v4] (va_rf o :: .int x :: .ref a :: st) (mk S I L R G) Q ↔ aqP (S a) S o x ∧ XX d 6 54 [v0, v1, v2, v3, v4] st (mk S I L (wr R a (up (R a) (ix x) o)) G) Q := r_aqo i_6_53
theorem q_6_54 : XX d 6 54 [v0, v1, v2, v3, v4] [] A Q ↔ Q (.inl none) A := e_retN i_6_54 rfl
theorem q_6_e : XC d 6 [.ref a0, .int x1, .int x2] A Q ↔ XX d 6 0 [some (.ref a0), some (.int x1), some (.int x2), none, none] [] A Q := Iff.rfl
theorem i_7_0 : t_ins 7 0 = some (.iconst 0) := by decide +kernel
theorem i_7_1 : t_ins 7 1 = some (.istore_n 2) := by decide +kernel
theorem i_7_2 : t_ins 7 2 = some (.iload_n 2) := by decide +kernel
theorem i_7_3 : t_ins 7 3 = some (.aload_n 0) := by decide +kernel
theorem i_7_4 : t_ins 7 4 = some (.getfield 11) := by decide +kernel
theorem i_7_7 : t_ins 7 7 = some (.arraylength) := by decide +kernel
theorem i_7_8 : t_ins 7 8 = some (.if_icmp .ge 30) := by decide +kernel
theorem i_7_11 : t_ins 7 11 = some (.iload_n 2) := by decide +kernel
theorem i_7_12 : t_ins 7 12 = some (.aload_n 1) := by decide +kernel
theorem i_7_13 : t_ins 7 13 = some (.getfield 11) := by decide +kernel
theorem i_7_16 : t_ins 7 16 = some (.arraylength) := by decide +kernel
theorem i_7_17 : t_ins 7 17 = some (.if_icmp .ge 21) := by decide +kernel
theorem i_7_20 : t_ins 7 20 = some (.aload_n 0) := by decide +kernel
theorem i_7_21 : t_ins 7 21 = some (.getfield 11) := by decide +kernel
theorem i_7_24 : t_ins 7 24 = some (.iload_n 2) := by decide +kernel
theorem i_7_25 : t_ins 7 25 = some (.aload_n 1) := by decide +kernel
theorem i_7_26 : t_ins 7 26 = some (.getfield 11) := by decide +kernel
theorem i_7_29 : t_ins 7 29 = some (.iload_n 2) := by decide +kernel
theorem i_7_30 : t_ins 7 30 = some (.aaload) := by decide +kernel
theorem i_7_31 : t_ins 7 31 = some (.aastore) := by decide +kernel
theorem i_7_32 : t_ins 7 32 = some (.iinc 2 1) := by decide +kernel
theorem i_7_35 : t_ins 7 35 = some (.goto (-33)) := by decide +kernel
theorem i_7_38 : t_ins 7 38 = some (.iconst 0) := by decide +kernel
theorem i_7_39 : t_ins 7 39 = some (.istore_n 2) := by decide +kernel
theorem i_7_40 : t_ins 7 40 = some (.iload_n 2) := by decide +kernel
theorem i_7_41 : t_ins 7 41 = some (.aload_n 0) := by decide +kernel
theorem i_7_42 : t_ins 7 42 = some (.getfield 17) := by decide +kernel
theorem i_7_45 : t_ins 7 45 = some (.arraylength) := by decide +kernel
theorem i_7_46 : t_ins 7 46 = some (.if_icmp .ge 30) := by decide +kernel
theorem i_7_49 : t_ins 7 49 = some (.iload_n 2) := by decide +kernel
theorem i_7_50 : t_ins 7 50 = some (.aload_n 1) := by decide +kernel
theorem i_7_51 : t_ins 7 51 = some (.getfield 17) := by decide +kernel
theorem i_7_54 : t_ins 7 54 = some (.arraylength) := by decide +kernel
theorem i_7_55 : t_ins 7 55 = some (.if_icmp .ge 21) := by decide +kernel
theorem i_7_58 : t_ins 7 58 = some (.aload_n 0) := by decide +kernel
theorem i_7_59 : t_ins 7 59 = some (.getfield 17) := by decide +kernel
theorem i_7_62 : t_ins 7 62 = some (.iload_n 2) := by decide +kernel
theorem i_7_63 : t_ins 7 63 = some (.aload_n 1) := by decide +kernel
theorem i_7_64 : t_ins 7 64 = some (.getfield 17) := by decide +kernel
theorem i_7_67 : t_ins 7 67 = some (.iload_n 2) := by decide +kernel
theorem i_7_68 : t_ins 7 68 = some (.iaload) := by decide +kernel
theorem i_7_69 : t_ins 7 69 = some (.iastore) := by decide +kernel
theorem i_7_70 : t_ins 7 70 = some (.iinc 2 1) := by decide +kernel
theorem i_7_73 : t_ins 7 73 = some (.goto (-33)) := by decide +kernel
theorem i_7_76 : t_ins 7 76 = some (.aload_n 0) := by decide +kernel
theorem i_7_77 : t_ins 7 77 = some (.aload_n 1) := by decide +kernel
theorem i_7_78 : t_ins 7 78 = some (.getfield 21) := by decide +kernel
theorem i_7_81 : t_ins 7 81 = some (.putfield 21) := by decide +kernel
theorem i_7_84 : t_ins 7 84 = some (.return_) := by decide +kernel
theorem q_7_0 : XX d 7 0 [v0, v1, v2] st A Q ↔ XX d 7 1 [v0, v1, v2] (.int (w 0) :: st) A Q := c_stk i_7_0 rfl
theorem q_7_1 : XX d 7 1 [v0, some (.ref b), v2] (.int x :: st) A Q ↔ XX d 7 2 [v0, some (.ref b), some (.int x)] st A Q := c_lcl i_7_1 rfl rfl
theorem q_7_2 : XX d 7 2 [v0, v1, some (.int x)] st A Q ↔ XX d 7 3 [v0, v1, some (.int x)] (.int x :: st) A Q := c_lcl i_7_2 rfl rfl
theorem q_7_3 : XX d 7 3 [some (.ref a), v1, v2] st A Q ↔ XX d 7 4 [some (.ref a), v1, v2] (.ref a :: st) A Q := c_lcl i_7_3 rfl rfl
theorem q_7_4 : XX d 7 4 [v0, v1, v2] (.ref a :: st) (mk S I L R G) Q ↔ S a = some (.inr 0) ∧ XX d 7 7 [v0, v1, v2] (.ref (a + 1) :: st) (mk S I L R G) Q := r_gf i_7_4 rfl (by decide) rfl
theorem q_7_7 : XX d 7 7 [v0, v1, v2] (.ref a :: st) (mk S I L R G) Q ↔ alP (S a) (fun n => XX d 7 8 [v0, v1, v2] (.int n :: st) (mk S I L R G) Q) := r_al i_7_7
theorem q_7_8 : XX d 7 8 [v0, v1, v2] (.int y :: .int x :: st) A Q ↔ if x < y then XX d 7 11 [v0, v1, v2] st A Q else XX d 7 38 [v0, v1, v2] st A Q := b_ge i_7_8 rfl rfl rfl
theorem q_7_11 : XX d 7 11 [v0, v1, some (.int x)] st A Q ↔ XX d 7 12 [v0, v1, some (.int x)] (.int x :: st) A Q := c_lcl i_7_11 rfl rfl
theorem q_7_12 : XX d 7 12 [v0, some (.ref a), v2] st A Q ↔ XX d 7 13 [v0, some (.ref a), v2] (.ref a :: st) A Q := c_lcl i_7_12 rfl rfl
theorem q_7_13 : XX d 7 13 [v0, v1, v2] (.ref a :: st) (mk S I L R G) Q ↔ S a = some (.inr 0) ∧ XX d 7 16 [v0, v1, v2] (.ref (a + 1) :: st) (mk S I L R G) Q := r_gf i_7_13 rfl (by decide) rfl
theorem q_7_16 : XX d 7 16 [v0, v1, v2] (.ref a :: st) (mk S I L R G) Q ↔ alP (S a) (fun n => XX d 7 17 [v0, v1, v2] (.int n :: st) (mk S I L R G) Q) := r_al i_7_16
theorem q_7_17 : XX d 7 17 [v0, v1, v2] (.int y :: .int x :: st) A Q ↔ if x < y then XX d 7 20 [v0, v1, v2] st A Q else XX d 7 38 [v0, v1, v2] st A Q := b_ge i_7_17 rfl rfl rfl
theorem q_7_20 : XX d 7 20 [some (.ref a), v1, v2] st A Q ↔ XX d 7 21 [some (.ref a), v1, v2] (.ref a :: st) A Q := c_lcl i_7_20 rfl rfl
theorem q_7_21 : XX d 7 21 [v0, v1, v2] (.ref a :: st) (mk S I L R G) Q ↔ S a = some (.inr 0) ∧ XX d 7 24 [v0, v1, v2] (.ref (a + 1) :: st) (mk S I L R G) Q := r_gf i_7_21 rfl (by decide) rfl
theorem q_7_24 : XX d 7 24 [v0, v1, some (.int x)] st A Q ↔ XX d 7 25 [v0, v1, some (.int x)] (.int x :: st) A Q := c_lcl i_7_24 rfl rfl
theorem q_7_25 : XX d 7 25 [v0, some (.ref a), v2] st A Q ↔ XX d 7 26 [v0, some (.ref a), v2] (.ref a :: st) A Q := c_lcl i_7_25 rfl rfl
theorem q_7_26 : XX d 7 26 [v0, v1, v2] (.ref a :: st) (mk S I L R G) Q ↔ S a = some (.inr 0) ∧ XX d 7 29 [v0, v1, v2] (.ref (a + 1) :: st) (mk S I L R G) Q := r_gf i_7_26 rfl (by decide) rfl
theorem q_7_29 : XX d 7 29 [v0, v1, some (.int x)] st A Q ↔ XX d 7 30 [v0, v1, some (.int x)] (.int x :: st) A Q := c_lcl i_7_29 rfl rfl
theorem q_7_30 : XX d 7 30 [v0, v1, v2] (.int x :: .ref a :: st) (mk S I L R G) Q ↔ inA (S a) ok_q x ∧ XX d 7 31 [v0, v1, v2] (va_rf (R a (ix x)) :: st) (mk S I L R G) Q := r_aq i_7_30
theorem q_7_31 : XX d 7 31 [v0, v1, v2] (.ref b :: .int x :: .ref a :: st) (mk S I L R G) Q ↔ aqP (S a) S (some b) x ∧ XX d 7 32 [v0, v1, v2] st (mk S I L (wr R a (up (R a) (ix x) (some b))) G) Q := r_aqs i_7_31
theorem q_7_31o : XX d 7 31 [v0, v1, v2] (va_rf o :: .int x :: .ref a :: st) (mk S I L R G) Q ↔ aqP (S a) S o x ∧ XX d 7 32 [v0, v1, v2] st (mk S I L (wr R a (up (R a) (ix x) o)) G) Q := r_aqo i_7_31
theorem q_7_32 : XX d 7 32 [v0, some (.ref b), some (.int x)] st A Q ↔ XX d 7 35 [v0, some (.ref b), some (.int (x + w 1))] st A Q := c_lcl i_7_32 rfl rfl
theorem q_7_35 : XX d 7 35 [v0, v1, v2] st A Q ↔ XX d 7 2 [v0, v1, v2] st A Q := c_go i_7_35 rfl rfl
theorem q_7_38 : XX d 7 38 [v0, v1, v2] st A Q ↔ XX d 7 39 [v0, v1, v2] (.int (w 0) :: st) A Q := c_stk i_7_38 rfl
theorem q_7_39 : XX d 7 39 [v0, some (.ref b), v2] (.int x :: st) A Q ↔ XX d 7 40 [v0, some (.ref b), some (.int x)] st A Q := c_lcl i_7_39 rfl rfl
theorem q_7_40 : XX d 7 40 [v0, v1, some (.int x)] st A Q ↔ XX d 7 41 [v0, v1, some (.int x)] (.int x :: st) A Q := c_lcl i_7_40 rfl rfl
theorem q_7_41 : XX d 7 41 [some (.ref a), v1, v2] st A Q ↔ XX d 7 42 [some (.ref a), v1, v2] (.ref a :: st) A Q := c_lcl i_7_41 rfl rfl
theorem q_7_42 : XX d 7 42 [v0, v1, v2] (.ref a :: st) (mk S I L R G) Q ↔ S a = some (.inr 0) ∧ XX d 7 45 [v0, v1, v2] (.ref (a + 2) :: st) (mk S I L R G) Q := r_gf i_7_42 rfl (by decide) rfl
theorem q_7_45 : XX d 7 45 [v0, v1, v2] (.ref a :: st) (mk S I L R G) Q ↔ alP (S a) (fun n => XX d 7 46 [v0, v1, v2] (.int n :: st) (mk S I L R G) Q) := r_al i_7_45
theorem q_7_46 : XX d 7 46 [v0, v1, v2] (.int y :: .int x :: st) A Q ↔ if x < y then XX d 7 49 [v0, v1, v2] st A Q else XX d 7 76 [v0, v1, v2] st A Q := b_ge i_7_46 rfl rfl rfl
theorem q_7_49 : XX d 7 49 [v0, v1, some (.int x)] st A Q ↔ XX d 7 50 [v0, v1, some (.int x)] (.int x :: st) A Q := c_lcl i_7_49 rfl rfl
theorem q_7_50 : XX d 7 50 [v0, some (.ref a), v2] st A Q ↔ XX d 7 51 [v0, some (.ref a), v2] (.ref a :: st) A Q := c_lcl i_7_50 rfl rfl
theorem q_7_51 : XX d 7 51 [v0, v1, v2] (.ref a :: st) (mk S I L R G) Q ↔ S a = some (.inr 0) ∧ XX d 7 54 [v0, v1, v2] (.ref (a + 2) :: st) (mk S I L R G) Q := r_gf i_7_51 rfl (by decide) rfl
theorem q_7_54 : XX d 7 54 [v0, v1, v2] (.ref a :: st) (mk S I L R G) Q ↔ alP (S a) (fun n => XX d 7 55 [v0, v1, v2] (.int n :: st) (mk S I L R G) Q) := r_al i_7_54
theorem q_7_55 : XX d 7 55 [v0, v1, v2] (.int y :: .int x :: st) A Q ↔ if x < y then XX d 7 58 [v0, v1, v2] st A Q else XX d 7 76 [v0, v1, v2] st A Q := b_ge i_7_55 rfl rfl rfl
theorem q_7_58 : XX d 7 58 [some (.ref a), v1, v2] st A Q ↔ XX d 7 59 [some (.ref a), v1, v2] (.ref a :: st) A Q := c_lcl i_7_58 rfl rfl
theorem q_7_59 : XX d 7 59 [v0, v1, v2] (.ref a :: st) (mk S I L R G) Q ↔ S a = some (.inr 0) ∧ XX d 7 62 [v0, v1, v2] (.ref (a + 2) :: st) (mk S I L R G) Q := r_gf i_7_59 rfl (by decide) rfl
theorem q_7_62 : XX d 7 62 [v0, v1, some (.int x)] st A Q ↔ XX d 7 63 [v0, v1, some (.int x)] (.int x :: st) A Q := c_lcl i_7_62 rfl rfl
theorem q_7_63 : XX d 7 63 [v0, some (.ref a), v2] st A Q ↔ XX d 7 64 [v0, some (.ref a), v2] (.ref a :: st) A Q := c_lcl i_7_63 rfl rfl
theorem q_7_64 : XX d 7 64 [v0, v1, v2] (.ref a :: st) (mk S I L R G) Q ↔ S a = some (.inr 0) ∧ XX d 7 67 [v0, v1, v2] (.ref (a + 2) :: st) (mk S I L R G) Q := r_gf i_7_64 rfl (by decide) rfl
theorem q_7_67 : XX d 7 67 [v0, v1, some (.int x)] st A Q ↔ XX d 7 68 [v0, v1, some (.int x)] (.int x :: st) A Q := c_lcl i_7_67 rfl rfl
theorem q_7_68 : XX d 7 68 [v0, v1, v2] (.int x :: .ref a :: st) (mk S I L R G) Q ↔ inA (S a) ok_i x ∧ XX d 7 69 [v0, v1, v2] (.int (I a (ix x)) :: st) (mk S I L R G) Q := r_ia i_7_68
theorem q_7_69 : XX d 7 69 [v0, v1, v2] (.int y :: .int x :: .ref a :: st) (mk S I L R G) Q ↔ inA (S a) ok_0 x ∧ XX d 7 70 [v0, v1, v2] st (mk S (wr I a (up (I a) (ix x) y)) L R G) Q := r_ias i_7_69
theorem q_7_70 : XX d 7 70 [v0, some (.ref b), some (.int x)] st A Q ↔ XX d 7 73 [v0, some (.ref b), some (.int (x + w 1))] st A Q := c_lcl i_7_70 rfl rfl
theorem q_7_73 : XX d 7 73 [v0, v1, v2] st A Q ↔ XX d 7 40 [v0, v1, v2] st A Q := c_go i_7_73 rfl rfl
theorem q_7_76 : XX d 7 76 [some (.ref a), v1, v2] st A Q ↔ XX d 7 77 [some (.ref a), v1, v2] (.ref a :: st) A Q := c_lcl i_7_76 rfl rfl
theorem q_7_77 : XX d 7 77 [v0, some (.ref a), v2] st A Q ↔ XX d 7 78 [v0, some (.ref a), v2] (.ref a :: st) A Q := c_lcl i_7_77 rfl rfl
theorem q_7_78 : XX d 7 78 [v0, v1, v2] (.ref a :: st) (mk S I L R G) Q ↔ S a = some (.inr 0) ∧ XX d 7 81 [v0, v1, v2] (.int (I a 2) :: st) (mk S I L R G) Q := r_gf i_7_78 rfl (by decide) rfl
theorem q_7_81 : XX d 7 81 [v0, v1, v2] (.int x :: .ref a :: st) (mk S I L R G) Q ↔ S a = some (.inr 0) ∧ XX d 7 84 [v0, v1, v2] st (mk S (wr I a (up (I a) 2 x)) L R G) Q := r_pf i_7_81 rfl (by decide) rfl rfl rfl
theorem q_7_84 : XX d 7 84 [v0, v1, v2] [] A Q ↔ Q (.inl none) A := e_retN i_7_84 rfl
theorem q_7_e : XC d 7 [.ref a0, .ref a1] A Q ↔ XX d 7 0 [some (.ref a0), some (.ref a1), none] [] A Q := Iff.rfl
theorem i_8_0 : t_ins 8 0 = some (.aload_n 0) := by decide +kernel
theorem i_8_1 : t_ins 8 1 = some (.invokespecial 3) := by decide +kernel
theorem i_8_4 : t_ins 8 4 = some (.aload_n 0) := by decide +kernel
theorem i_8_5 : t_ins 8 5 = some (.bipush 31) := by decide +kernel
theorem i_8_7 : t_ins 8 7 = some (.newarray .int) := by decide +kernel
theorem i_8_9 : t_ins 8 9 = some (.putfield 11) := by decide +kernel
theorem i_8_12 : t_ins 8 12 = some (.aload_n 0) := by decide +kernel
theorem i_8_13 : t_ins 8 13 = some (.bipush 31) := by decide +kernel
theorem i_8_15 : t_ins 8 15 = some (.newarray .int) := by decide +kernel
theorem i_8_17 : t_ins 8 17 = some (.putfield 15) := by decide +kernel
theorem i_8_20 : t_ins 8 20 = some (.aload_n 0) := by decide +kernel
theorem i_8_21 : t_ins 8 21 = some (.bipush 31) := by decide +kernel
theorem i_8_23 : t_ins 8 23 = some (.newarray .int) := by decide +kernel
theorem i_8_25 : t_ins 8 25 = some (.putfield 18) := by decide +kernel
theorem i_8_28 : t_ins 8 28 = some (.aload_n 0) := by decide +kernel
theorem i_8_29 : t_ins 8 29 = some (.bipush 31) := by decide +kernel
theorem i_8_31 : t_ins 8 31 = some (.newarray .int) := by decide +kernel
theorem i_8_33 : t_ins 8 33 = some (.putfield 21) := by decide +kernel
theorem i_8_36 : t_ins 8 36 = some (.aload_n 0) := by decide +kernel
theorem i_8_37 : t_ins 8 37 = some (.iconst 0) := by decide +kernel
theorem i_8_38 : t_ins 8 38 = some (.putfield 24) := by decide +kernel
theorem i_8_41 : t_ins 8 41 = some (.return_) := by decide +kernel
theorem q_8_0 : XX d 8 0 [some (.ref a)] st A Q ↔ XX d 8 1 [some (.ref a)] (.ref a :: st) A Q := c_lcl i_8_0 rfl rfl
theorem q_8_4 : XX d 8 4 [some (.ref a)] st A Q ↔ XX d 8 5 [some (.ref a)] (.ref a :: st) A Q := c_lcl i_8_4 rfl rfl
theorem q_8_5 : XX d 8 5 [v0] st A Q ↔ XX d 8 7 [v0] (.int (w 31) :: st) A Q := c_stk i_8_5 rfl
theorem q_8_12 : XX d 8 12 [some (.ref a)] st A Q ↔ XX d 8 13 [some (.ref a)] (.ref a :: st) A Q := c_lcl i_8_12 rfl rfl
theorem q_8_13 : XX d 8 13 [v0] st A Q ↔ XX d 8 15 [v0] (.int (w 31) :: st) A Q := c_stk i_8_13 rfl
theorem q_8_20 : XX d 8 20 [some (.ref a)] st A Q ↔ XX d 8 21 [some (.ref a)] (.ref a :: st) A Q := c_lcl i_8_20 rfl rfl
theorem q_8_21 : XX d 8 21 [v0] st A Q ↔ XX d 8 23 [v0] (.int (w 31) :: st) A Q := c_stk i_8_21 rfl
theorem q_8_28 : XX d 8 28 [some (.ref a)] st A Q ↔ XX d 8 29 [some (.ref a)] (.ref a :: st) A Q := c_lcl i_8_28 rfl rfl
theorem q_8_29 : XX d 8 29 [v0] st A Q ↔ XX d 8 31 [v0] (.int (w 31) :: st) A Q := c_stk i_8_29 rfl
theorem q_8_36 : XX d 8 36 [some (.ref a)] st A Q ↔ XX d 8 37 [some (.ref a)] (.ref a :: st) A Q := c_lcl i_8_36 rfl rfl
theorem q_8_37 : XX d 8 37 [v0] st A Q ↔ XX d 8 38 [v0] (.int (w 0) :: st) A Q := c_stk i_8_37 rfl
theorem q_8_41 : XX d 8 41 [v0] [] A Q ↔ Q (.inl none) A := e_retN i_8_41 rfl
theorem q_8_e : XC d 8 [.ref a0] A Q ↔ XX d 8 0 [some (.ref a0)] [] A Q := Iff.rfl
theorem i_9_0 : t_ins 9 0 = some (.iload_n 1) := by decide +kernel
theorem i_9_1 : t_ins 9 1 = some (.ifCond .lt 50) := by decide +kernel
theorem i_9_4 : t_ins 9 4 = some (.iload_n 1) := by decide +kernel
theorem i_9_5 : t_ins 9 5 = some (.bipush 31) := by decide +kernel
theorem i_9_7 : t_ins 9 7 = some (.if_icmp .ge 44) := by decide +kernel
theorem i_9_10 : t_ins 9 10 = some (.aload_n 0) := by decide +kernel
theorem i_9_11 : t_ins 9 11 = some (.getfield 11) := by decide +kernel
theorem i_9_14 : t_ins 9 14 = some (.iload_n 1) := by decide +kernel
theorem i_9_15 : t_ins 9 15 = some (.iload_n 2) := by decide +kernel
theorem i_9_16 : t_ins 9 16 = some (.iastore) := by decide +kernel
theorem i_9_17 : t_ins 9 17 = some (.aload_n 0) := by decide +kernel
theorem i_9_18 : t_ins 9 18 = some (.getfield 15) := by decide +kernel
theorem i_9_21 : t_ins 9 21 = some (.iload_n 1) := by decide +kernel
theorem i_9_22 : t_ins 9 22 = some (.iload_n 3) := by decide +kernel
theorem i_9_23 : t_ins 9 23 = some (.iastore) := by decide +kernel
theorem i_9_24 : t_ins 9 24 = some (.aload_n 0) := by decide +kernel
theorem i_9_25 : t_ins 9 25 = some (.getfield 18) := by decide +kernel
theorem i_9_28 : t_ins 9 28 = some (.iload_n 1) := by decide +kernel
theorem i_9_29 : t_ins 9 29 = some (.iload 4) := by decide +kernel
theorem i_9_31 : t_ins 9 31 = some (.iastore) := by decide +kernel
theorem i_9_32 : t_ins 9 32 = some (.aload_n 0) := by decide +kernel
theorem i_9_33 : t_ins 9 33 = some (.getfield 21) := by decide +kernel
theorem i_9_36 : t_ins 9 36 = some (.iload_n 1) := by decide +kernel
theorem i_9_37 : t_ins 9 37 = some (.iload 5) := by decide +kernel
theorem i_9_39 : t_ins 9 39 = some (.iastore) := by decide +kernel
theorem i_9_40 : t_ins 9 40 = some (.iload_n 3) := by decide +kernel
theorem i_9_41 : t_ins 9 41 = some (.ifCond .eq 10) := by decide +kernel
theorem i_9_44 : t_ins 9 44 = some (.aload_n 0) := by decide +kernel
theorem i_9_45 : t_ins 9 45 = some (.iload_n 1) := by decide +kernel
theorem i_9_46 : t_ins 9 46 = some (.iconst 1) := by decide +kernel
theorem i_9_47 : t_ins 9 47 = some (.iadd) := by decide +kernel
theorem i_9_48 : t_ins 9 48 = some (.putfield 24) := by decide +kernel
theorem i_9_51 : t_ins 9 51 = some (.iconst 0) := by decide +kernel
theorem i_9_52 : t_ins 9 52 = some (.ireturn) := by decide +kernel
theorem q_9_0 : XX d 9 0 [v0, some (.int x), v2, v3, v4, v5] st A Q ↔ XX d 9 1 [v0, some (.int x), v2, v3, v4, v5] (.int x :: st) A Q := c_lcl i_9_0 rfl rfl
theorem q_9_1 : XX d 9 1 [v0, v1, v2, v3, v4, v5] (.int x :: st) A Q ↔ if x < w 0 then XX d 9 51 [v0, v1, v2, v3, v4, v5] st A Q else XX d 9 4 [v0, v1, v2, v3, v4, v5] st A Q := z_lt i_9_1 rfl rfl rfl
theorem q_9_4 : XX d 9 4 [v0, some (.int x), v2, v3, v4, v5] st A Q ↔ XX d 9 5 [v0, some (.int x), v2, v3, v4, v5] (.int x :: st) A Q := c_lcl i_9_4 rfl rfl
theorem q_9_5 : XX d 9 5 [v0, v1, v2, v3, v4, v5] st A Q ↔ XX d 9 7 [v0, v1, v2, v3, v4, v5] (.int (w 31) :: st) A Q := c_stk i_9_5 rfl
theorem q_9_7 : XX d 9 7 [v0, v1, v2, v3, v4, v5] (.int y :: .int x :: st) A Q ↔ if x < y then XX d 9 10 [v0, v1, v2, v3, v4, v5] st A Q else XX d 9 51 [v0, v1, v2, v3, v4, v5] st A Q := b_ge i_9_7 rfl rfl rfl
theorem q_9_10 : XX d 9 10 [some (.ref a), v1, v2, v3, v4, v5] st A Q ↔ XX d 9 11 [some (.ref a), v1, v2, v3, v4, v5] (.ref a :: st) A Q := c_lcl i_9_10 rfl rfl
theorem q_9_11 : XX d 9 11 [v0, v1, v2, v3, v4, v5] (.ref a :: st) (mk S I L R G) Q ↔ S a = some (.inr 1) ∧ XX d 9 14 [v0, v1, v2, v3, v4, v5] (.ref (a + 1) :: st) (mk S I L R G) Q := r_gf i_9_11 rfl (by decide) rfl
theorem q_9_14 : XX d 9 14 [v0, some (.int x), v2, v3, v4, v5] st A Q ↔ XX d 9 15 [v0, some (.int x), v2, v3, v4, v5] (.int x :: st) A Q := c_lcl i_9_14 rfl rfl
theorem q_9_15 : XX d 9 15 [v0, v1, some (.int x), v3, v4, v5] st A Q ↔ XX d 9 16 [v0, v1, some (.int x), v3, v4, v5] (.int x :: st) A Q := c_lcl i_9_15 rfl rfl
theorem q_9_16 : XX d 9 16 [v0, v1, v2, v3, v4, v5] (.int y :: .int x :: .ref a :: st) (mk S I L R G) Q ↔ inA (S a) ok_0 x ∧ XX d 9 17 [v0, v1, v2, v3, v4, v5] st (mk S (wr I a (up (I a) (ix x) y)) L R G) Q := r_ias i_9_16
theorem q_9_17 : XX d 9 17 [some (.ref a), v1, v2, v3, v4, v5] st A Q ↔ XX d 9 18 [some (.ref a), v1, v2, v3, v4, v5] (.ref a :: st) A Q := c_lcl i_9_17 rfl rfl
theorem q_9_18 : XX d 9 18 [v0, v1, v2, v3, v4, v5] (.ref a :: st) (mk S I L R G) Q ↔ S a = some (.inr 1) ∧ XX d 9 21 [v0, v1, v2, v3, v4, v5] (.ref (a + 2) :: st) (mk S I L R G) Q := r_gf i_9_18 rfl (by decide) rfl
theorem q_9_21 : XX d 9 21 [v0, some (.int x), v2, v3, v4, v5] st A Q ↔ XX d 9 22 [v0, some (.int x), v2, v3, v4, v5] (.int x :: st) A Q := c_lcl i_9_21 rfl rfl
theorem q_9_22 : XX d 9 22 [v0, v1, v2, some (.int x), v4, v5] st A Q ↔ XX d 9 23 [v0, v1, v2, some (.int x), v4, v5] (.int x :: st) A Q := c_lcl i_9_22 rfl rfl
theorem q_9_23 : XX d 9 23 [v0, v1, v2, v3, v4, v5] (.int y :: .int x :: .ref a :: st) (mk S I L R G) Q ↔ inA (S a) ok_0 x ∧ XX d 9 24 [v0, v1, v2, v3, v4, v5] st (mk S (wr I a (up (I a) (ix x) y)) L R G) Q := r_ias i_9_23
theorem q_9_24 : XX d 9 24 [some (.ref a), v1, v2, v3, v4, v5] st A Q ↔ XX d 9 25 [some (.ref a), v1, v2, v3, v4, v5] (.ref a :: st) A Q := c_lcl i_9_24 rfl rfl
theorem q_9_25 : XX d 9 25 [v0, v1, v2, v3, v4, v5] (.ref a :: st) (mk S I L R G) Q ↔ S a = some (.inr 1) ∧ XX d 9 28 [v0, v1, v2, v3, v4, v5] (.ref (a + 3) :: st) (mk S I L R G) Q := r_gf i_9_25 rfl (by decide) rfl
theorem q_9_28 : XX d 9 28 [v0, some (.int x), v2, v3, v4, v5] st A Q ↔ XX d 9 29 [v0, some (.int x), v2, v3, v4, v5] (.int x :: st) A Q := c_lcl i_9_28 rfl rfl
theorem q_9_29 : XX d 9 29 [v0, v1, v2, v3, some (.int x), v5] st A Q ↔ XX d 9 31 [v0, v1, v2, v3, some (.int x), v5] (.int x :: st) A Q := c_lcl i_9_29 rfl rfl
theorem q_9_31 : XX d 9 31 [v0, v1, v2, v3, v4, v5] (.int y :: .int x :: .ref a :: st) (mk S I L R G) Q ↔ inA (S a) ok_0 x ∧ XX d 9 32 [v0, v1, v2, v3, v4, v5] st (mk S (wr I a (up (I a) (ix x) y)) L R G) Q := r_ias i_9_31
theorem q_9_32 : XX d 9 32 [some (.ref a), v1, v2, v3, v4, v5] st A Q ↔ XX d 9 33 [some (.ref a), v1, v2, v3, v4, v5] (.ref a :: st) A Q := c_lcl i_9_32 rfl rfl
theorem q_9_33 : XX d 9 33 [v0, v1, v2, v3, v4, v5] (.ref a :: st) (mk S I L R G) Q ↔ S a = some (.inr 1) ∧ XX d 9 36 [v0, v1, v2, v3, v4, v5] (.ref (a + 4) :: st) (mk S I L R G) Q := r_gf i_9_33 rfl (by decide) rfl
theorem q_9_36 : XX d 9 36 [v0, some (.int x), v2, v3, v4, v5] st A Q ↔ XX d 9 37 [v0, some (.int x), v2, v3, v4, v5] (.int x :: st) A Q := c_lcl i_9_36 rfl rfl
theorem q_9_37 : XX d 9 37 [v0, v1, v2, v3, v4, some (.int x)] st A Q ↔ XX d 9 39 [v0, v1, v2, v3, v4, some (.int x)] (.int x :: st) A Q := c_lcl i_9_37 rfl rfl
theorem q_9_39 : XX d 9 39 [v0, v1, v2, v3, v4, v5] (.int y :: .int x :: .ref a :: st) (mk S I L R G) Q ↔ inA (S a) ok_0 x ∧ XX d 9 40 [v0, v1, v2, v3, v4, v5] st (mk S (wr I a (up (I a) (ix x) y)) L R G) Q := r_ias i_9_39
theorem q_9_40 : XX d 9 40 [v0, v1, v2, some (.int x), v4, v5] st A Q ↔ XX d 9 41 [v0, v1, v2, some (.int x), v4, v5] (.int x :: st) A Q := c_lcl i_9_40 rfl rfl
theorem q_9_41 : XX d 9 41 [v0, v1, v2, v3, v4, v5] (.int x :: st) A Q ↔ if x = w 0 then XX d 9 51 [v0, v1, v2, v3, v4, v5] st A Q else XX d 9 44 [v0, v1, v2, v3, v4, v5] st A Q := z_eq i_9_41 rfl rfl rfl
theorem q_9_44 : XX d 9 44 [some (.ref a), v1, v2, v3, v4, v5] st A Q ↔ XX d 9 45 [some (.ref a), v1, v2, v3, v4, v5] (.ref a :: st) A Q := c_lcl i_9_44 rfl rfl
theorem q_9_45 : XX d 9 45 [v0, some (.int x), v2, v3, v4, v5] st A Q ↔ XX d 9 46 [v0, some (.int x), v2, v3, v4, v5] (.int x :: st) A Q := c_lcl i_9_45 rfl rfl
theorem q_9_46 : XX d 9 46 [v0, v1, v2, v3, v4, v5] st A Q ↔ XX d 9 47 [v0, v1, v2, v3, v4, v5] (.int (w 1) :: st) A Q := c_stk i_9_46 rfl
theorem q_9_47 : XX d 9 47 [v0, v1, v2, v3, v4, v5] (.int y :: .int x :: st) A Q ↔ XX d 9 48 [v0, v1, v2, v3, v4, v5] (.int (x + y) :: st) A Q := c_stk i_9_47 rfl
theorem q_9_48 : XX d 9 48 [v0, v1, v2, v3, v4, v5] (.int x :: .ref a :: st) (mk S I L R G) Q ↔ S a = some (.inr 1) ∧ XX d 9 51 [v0, v1, v2, v3, v4, v5] st (mk S (wr I a (up (I a) 4 x)) L R G) Q := r_pf i_9_48 rfl (by decide) rfl rfl rfl
theorem q_9_51 : XX d 9 51 [v0, v1, v2, v3, v4, v5] st A Q ↔ XX d 9 52 [v0, v1, v2, v3, v4, v5] (.int (w 0) :: st) A Q := c_stk i_9_51 rfl
theorem q_9_52 : XX d 9 52 [v0, v1, v2, v3, v4, v5] [.int x] A Q ↔ (x = w 0 ∨ x = w 1) ∧ Q (.inl (some (.int x))) A := e_retZ i_9_52 rfl
theorem q_9_e : XC d 9 [.ref a0, .int x1, .int x2, .int x3, .int x4, .int x5] A Q ↔ XX d 9 0 [some (.ref a0), some (.int x1), some (.int x2), some (.int x3), some (.int x4), some (.int x5)] [] A Q := Iff.rfl
theorem i_10_0 : t_ins 10 0 = some (.iload_n 1) := by decide +kernel
theorem i_10_1 : t_ins 10 1 = some (.ifCond .lt 17) := by decide +kernel
theorem i_10_4 : t_ins 10 4 = some (.iload_n 1) := by decide +kernel
theorem i_10_5 : t_ins 10 5 = some (.aload_n 0) := by decide +kernel
theorem i_10_6 : t_ins 10 6 = some (.getfield 24) := by decide +kernel
theorem i_10_9 : t_ins 10 9 = some (.if_icmp .ge 9) := by decide +kernel
theorem i_10_12 : t_ins 10 12 = some (.iload_n 1) := by decide +kernel
theorem i_10_13 : t_ins 10 13 = some (.bipush 31) := by decide +kernel
theorem i_10_15 : t_ins 10 15 = some (.if_icmp .lt 5) := by decide +kernel
theorem i_10_18 : t_ins 10 18 = some (.iconst (-1)) := by decide +kernel
theorem i_10_19 : t_ins 10 19 = some (.ireturn) := by decide +kernel
theorem i_10_20 : t_ins 10 20 = some (.iload_n 2) := by decide +kernel
theorem i_10_21 : t_ins 10 21 = some (.tableswitch 48 0 2 #[27, 34, 41]) := by decide +kernel
theorem i_10_48 : t_ins 10 48 = some (.aload_n 0) := by decide +kernel
theorem i_10_49 : t_ins 10 49 = some (.getfield 11) := by decide +kernel
theorem i_10_52 : t_ins 10 52 = some (.iload_n 1) := by decide +kernel
theorem i_10_53 : t_ins 10 53 = some (.iaload) := by decide +kernel
theorem i_10_54 : t_ins 10 54 = some (.ireturn) := by decide +kernel
theorem i_10_55 : t_ins 10 55 = some (.aload_n 0) := by decide +kernel
theorem i_10_56 : t_ins 10 56 = some (.getfield 15) := by decide +kernel
theorem i_10_59 : t_ins 10 59 = some (.iload_n 1) := by decide +kernel
theorem i_10_60 : t_ins 10 60 = some (.iaload) := by decide +kernel
theorem i_10_61 : t_ins 10 61 = some (.ireturn) := by decide +kernel
theorem i_10_62 : t_ins 10 62 = some (.aload_n 0) := by decide +kernel
theorem i_10_63 : t_ins 10 63 = some (.getfield 18) := by decide +kernel
theorem i_10_66 : t_ins 10 66 = some (.iload_n 1) := by decide +kernel
theorem i_10_67 : t_ins 10 67 = some (.iaload) := by decide +kernel
theorem i_10_68 : t_ins 10 68 = some (.ireturn) := by decide +kernel
theorem i_10_69 : t_ins 10 69 = some (.aload_n 0) := by decide +kernel
theorem i_10_70 : t_ins 10 70 = some (.getfield 21) := by decide +kernel
theorem i_10_73 : t_ins 10 73 = some (.iload_n 1) := by decide +kernel
theorem i_10_74 : t_ins 10 74 = some (.iaload) := by decide +kernel
theorem i_10_75 : t_ins 10 75 = some (.ireturn) := by decide +kernel
theorem q_10_0 : XX d 10 0 [v0, some (.int x), v2] st A Q ↔ XX d 10 1 [v0, some (.int x), v2] (.int x :: st) A Q := c_lcl i_10_0 rfl rfl
theorem q_10_1 : XX d 10 1 [v0, v1, v2] (.int x :: st) A Q ↔ if x < w 0 then XX d 10 18 [v0, v1, v2] st A Q else XX d 10 4 [v0, v1, v2] st A Q := z_lt i_10_1 rfl rfl rfl
theorem q_10_4 : XX d 10 4 [v0, some (.int x), v2] st A Q ↔ XX d 10 5 [v0, some (.int x), v2] (.int x :: st) A Q := c_lcl i_10_4 rfl rfl
theorem q_10_5 : XX d 10 5 [some (.ref a), v1, v2] st A Q ↔ XX d 10 6 [some (.ref a), v1, v2] (.ref a :: st) A Q := c_lcl i_10_5 rfl rfl
theorem q_10_6 : XX d 10 6 [v0, v1, v2] (.ref a :: st) (mk S I L R G) Q ↔ S a = some (.inr 1) ∧ XX d 10 9 [v0, v1, v2] (.int (I a 4) :: st) (mk S I L R G) Q := r_gf i_10_6 rfl (by decide) rfl
theorem q_10_9 : XX d 10 9 [v0, v1, v2] (.int y :: .int x :: st) A Q ↔ if x < y then XX d 10 12 [v0, v1, v2] st A Q else XX d 10 18 [v0, v1, v2] st A Q := b_ge i_10_9 rfl rfl rfl
theorem q_10_12 : XX d 10 12 [v0, some (.int x), v2] st A Q ↔ XX d 10 13 [v0, some (.int x), v2] (.int x :: st) A Q := c_lcl i_10_12 rfl rfl
theorem q_10_13 : XX d 10 13 [v0, v1, v2] st A Q ↔ XX d 10 15 [v0, v1, v2] (.int (w 31) :: st) A Q := c_stk i_10_13 rfl
theorem q_10_15 : XX d 10 15 [v0, v1, v2] (.int y :: .int x :: st) A Q ↔ if x < y then XX d 10 20 [v0, v1, v2] st A Q else XX d 10 18 [v0, v1, v2] st A Q := b_lt i_10_15 rfl rfl rfl
theorem q_10_18 : XX d 10 18 [v0, v1, v2] st A Q ↔ XX d 10 19 [v0, v1, v2] (.int (w (-1)) :: st) A Q := c_stk i_10_18 rfl
theorem q_10_19 : XX d 10 19 [v0, v1, v2] [.int x] A Q ↔ Q (.inl (some (.int x))) A := e_retI i_10_19 rfl
theorem q_10_20 : XX d 10 20 [v0, v1, some (.int x)] st A Q ↔ XX d 10 21 [v0, v1, some (.int x)] (.int x :: st) A Q := c_lcl i_10_20 rfl rfl
theorem q_10_21 : XX d 10 21 [v0, v1, v2] (.int x :: st) A Q ↔ XX d 10 (swT [48, 55, 62] 69 0 x.toInt) [v0, v1, v2] st A Q := c_tab i_10_21 rfl rfl rfl rfl
theorem q_10_48 : XX d 10 48 [some (.ref a), v1, v2] st A Q ↔ XX d 10 49 [some (.ref a), v1, v2] (.ref a :: st) A Q := c_lcl i_10_48 rfl rfl
theorem q_10_49 : XX d 10 49 [v0, v1, v2] (.ref a :: st) (mk S I L R G) Q ↔ S a = some (.inr 1) ∧ XX d 10 52 [v0, v1, v2] (.ref (a + 1) :: st) (mk S I L R G) Q := r_gf i_10_49 rfl (by decide) rfl
theorem q_10_52 : XX d 10 52 [v0, some (.int x), v2] st A Q ↔ XX d 10 53 [v0, some (.int x), v2] (.int x :: st) A Q := c_lcl i_10_52 rfl rfl
theorem q_10_53 : XX d 10 53 [v0, v1, v2] (.int x :: .ref a :: st) (mk S I L R G) Q ↔ inA (S a) ok_i x ∧ XX d 10 54 [v0, v1, v2] (.int (I a (ix x)) :: st) (mk S I L R G) Q := r_ia i_10_53
theorem q_10_54 : XX d 10 54 [v0, v1, v2] [.int x] A Q ↔ Q (.inl (some (.int x))) A := e_retI i_10_54 rfl
theorem q_10_55 : XX d 10 55 [some (.ref a), v1, v2] st A Q ↔ XX d 10 56 [some (.ref a), v1, v2] (.ref a :: st) A Q := c_lcl i_10_55 rfl rfl
theorem q_10_56 : XX d 10 56 [v0, v1, v2] (.ref a :: st) (mk S I L R G) Q ↔ S a = some (.inr 1) ∧ XX d 10 59 [v0, v1, v2] (.ref (a + 2) :: st) (mk S I L R G) Q := r_gf i_10_56 rfl (by decide) rfl
theorem q_10_59 : XX d 10 59 [v0, some (.int x), v2] st A Q ↔ XX d 10 60 [v0, some (.int x), v2] (.int x :: st) A Q := c_lcl i_10_59 rfl rfl
theorem q_10_60 : XX d 10 60 [v0, v1, v2] (.int x :: .ref a :: st) (mk S I L R G) Q ↔ inA (S a) ok_i x ∧ XX d 10 61 [v0, v1, v2] (.int (I a (ix x)) :: st) (mk S I L R G) Q := r_ia i_10_60
theorem q_10_61 : XX d 10 61 [v0, v1, v2] [.int x] A Q ↔ Q (.inl (some (.int x))) A := e_retI i_10_61 rfl
theorem q_10_62 : XX d 10 62 [some (.ref a), v1, v2] st A Q ↔ XX d 10 63 [some (.ref a), v1, v2] (.ref a :: st) A Q := c_lcl i_10_62 rfl rfl
theorem q_10_63 : XX d 10 63 [v0, v1, v2] (.ref a :: st) (mk S I L R G) Q ↔ S a = some (.inr 1) ∧ XX d 10 66 [v0, v1, v2] (.ref (a + 3) :: st) (mk S I L R G) Q := r_gf i_10_63 rfl (by decide) rfl
theorem q_10_66 : XX d 10 66 [v0, some (.int x), v2] st A Q ↔ XX d 10 67 [v0, some (.int x), v2] (.int x :: st) A Q := c_lcl i_10_66 rfl rfl
theorem q_10_67 : XX d 10 67 [v0, v1, v2] (.int x :: .ref a :: st) (mk S I L R G) Q ↔ inA (S a) ok_i x ∧ XX d 10 68 [v0, v1, v2] (.int (I a (ix x)) :: st) (mk S I L R G) Q := r_ia i_10_67
theorem q_10_68 : XX d 10 68 [v0, v1, v2] [.int x] A Q ↔ Q (.inl (some (.int x))) A := e_retI i_10_68 rfl
theorem q_10_69 : XX d 10 69 [some (.ref a), v1, v2] st A Q ↔ XX d 10 70 [some (.ref a), v1, v2] (.ref a :: st) A Q := c_lcl i_10_69 rfl rfl
theorem q_10_70 : XX d 10 70 [v0, v1, v2] (.ref a :: st) (mk S I L R G) Q ↔ S a = some (.inr 1) ∧ XX d 10 73 [v0, v1, v2] (.ref (a + 4) :: st) (mk S I L R G) Q := r_gf i_10_70 rfl (by decide) rfl
theorem q_10_73 : XX d 10 73 [v0, some (.int x), v2] st A Q ↔ XX d 10 74 [v0, some (.int x), v2] (.int x :: st) A Q := c_lcl i_10_73 rfl rfl
theorem q_10_74 : XX d 10 74 [v0, v1, v2] (.int x :: .ref a :: st) (mk S I L R G) Q ↔ inA (S a) ok_i x ∧ XX d 10 75 [v0, v1, v2] (.int (I a (ix x)) :: st) (mk S I L R G) Q := r_ia i_10_74
theorem q_10_75 : XX d 10 75 [v0, v1, v2] [.int x] A Q ↔ Q (.inl (some (.int x))) A := e_retI i_10_75 rfl
theorem q_10_e : XC d 10 [.ref a0, .int x1, .int x2] A Q ↔ XX d 10 0 [some (.ref a0), some (.int x1), some (.int x2)] [] A Q := Iff.rfl
theorem i_11_0 : t_ins 11 0 = some (.aload_n 0) := by decide +kernel
theorem i_11_1 : t_ins 11 1 = some (.invokespecial 3) := by decide +kernel
theorem i_11_4 : t_ins 11 4 = some (.aload_n 0) := by decide +kernel
theorem i_11_5 : t_ins 11 5 = some (.sipush 400) := by decide +kernel
theorem i_11_8 : t_ins 11 8 = some (.newarray .byte) := by decide +kernel
theorem i_11_10 : t_ins 11 10 = some (.putfield 9) := by decide +kernel
theorem i_11_13 : t_ins 11 13 = some (.aload_n 0) := by decide +kernel
theorem i_11_14 : t_ins 11 14 = some (.bipush 40) := by decide +kernel
theorem i_11_16 : t_ins 11 16 = some (.newarray .int) := by decide +kernel
theorem i_11_18 : t_ins 11 18 = some (.putfield 15) := by decide +kernel
theorem i_11_21 : t_ins 11 21 = some (.aload_n 0) := by decide +kernel
theorem i_11_22 : t_ins 11 22 = some (.bipush 40) := by decide +kernel
theorem i_11_24 : t_ins 11 24 = some (.newarray .int) := by decide +kernel
theorem i_11_26 : t_ins 11 26 = some (.putfield 19) := by decide +kernel
theorem i_11_29 : t_ins 11 29 = some (.aload_n 0) := by decide +kernel
theorem i_11_30 : t_ins 11 30 = some (.iconst 0) := by decide +kernel
theorem i_11_31 : t_ins 11 31 = some (.putfield 22) := by decide +kernel
theorem i_11_34 : t_ins 11 34 = some (.aload_n 0) := by decide +kernel
theorem i_11_35 : t_ins 11 35 = some (.bipush 41) := by decide +kernel
theorem i_11_37 : t_ins 11 37 = some (.newarray .long) := by decide +kernel
theorem i_11_39 : t_ins 11 39 = some (.putfield 26) := by decide +kernel
theorem i_11_42 : t_ins 11 42 = some (.aload_n 0) := by decide +kernel
theorem i_11_43 : t_ins 11 43 = some (.bipush 41) := by decide +kernel
theorem i_11_45 : t_ins 11 45 = some (.newarray .int) := by decide +kernel
theorem i_11_47 : t_ins 11 47 = some (.putfield 30) := by decide +kernel
theorem i_11_50 : t_ins 11 50 = some (.aload_n 0) := by decide +kernel
theorem i_11_51 : t_ins 11 51 = some (.bipush 41) := by decide +kernel
theorem i_11_53 : t_ins 11 53 = some (.newarray .int) := by decide +kernel
theorem i_11_55 : t_ins 11 55 = some (.putfield 33) := by decide +kernel
theorem i_11_58 : t_ins 11 58 = some (.aload_n 0) := by decide +kernel
theorem i_11_59 : t_ins 11 59 = some (.bipush 41) := by decide +kernel
theorem i_11_61 : t_ins 11 61 = some (.newarray .int) := by decide +kernel
theorem i_11_63 : t_ins 11 63 = some (.putfield 36) := by decide +kernel
theorem i_11_66 : t_ins 11 66 = some (.aload_n 0) := by decide +kernel
theorem i_11_67 : t_ins 11 67 = some (.iconst 0) := by decide +kernel
theorem i_11_68 : t_ins 11 68 = some (.putfield 39) := by decide +kernel
theorem i_11_71 : t_ins 11 71 = some (.return_) := by decide +kernel
theorem q_11_0 : XX d 11 0 [some (.ref a)] st A Q ↔ XX d 11 1 [some (.ref a)] (.ref a :: st) A Q := c_lcl i_11_0 rfl rfl
theorem q_11_4 : XX d 11 4 [some (.ref a)] st A Q ↔ XX d 11 5 [some (.ref a)] (.ref a :: st) A Q := c_lcl i_11_4 rfl rfl
theorem q_11_5 : XX d 11 5 [v0] st A Q ↔ XX d 11 8 [v0] (.int (w 400) :: st) A Q := c_stk i_11_5 rfl
theorem q_11_13 : XX d 11 13 [some (.ref a)] st A Q ↔ XX d 11 14 [some (.ref a)] (.ref a :: st) A Q := c_lcl i_11_13 rfl rfl
theorem q_11_14 : XX d 11 14 [v0] st A Q ↔ XX d 11 16 [v0] (.int (w 40) :: st) A Q := c_stk i_11_14 rfl
theorem q_11_21 : XX d 11 21 [some (.ref a)] st A Q ↔ XX d 11 22 [some (.ref a)] (.ref a :: st) A Q := c_lcl i_11_21 rfl rfl
theorem q_11_22 : XX d 11 22 [v0] st A Q ↔ XX d 11 24 [v0] (.int (w 40) :: st) A Q := c_stk i_11_22 rfl
theorem q_11_29 : XX d 11 29 [some (.ref a)] st A Q ↔ XX d 11 30 [some (.ref a)] (.ref a :: st) A Q := c_lcl i_11_29 rfl rfl
theorem q_11_30 : XX d 11 30 [v0] st A Q ↔ XX d 11 31 [v0] (.int (w 0) :: st) A Q := c_stk i_11_30 rfl
theorem q_11_34 : XX d 11 34 [some (.ref a)] st A Q ↔ XX d 11 35 [some (.ref a)] (.ref a :: st) A Q := c_lcl i_11_34 rfl rfl
theorem q_11_35 : XX d 11 35 [v0] st A Q ↔ XX d 11 37 [v0] (.int (w 41) :: st) A Q := c_stk i_11_35 rfl
theorem q_11_42 : XX d 11 42 [some (.ref a)] st A Q ↔ XX d 11 43 [some (.ref a)] (.ref a :: st) A Q := c_lcl i_11_42 rfl rfl
theorem q_11_43 : XX d 11 43 [v0] st A Q ↔ XX d 11 45 [v0] (.int (w 41) :: st) A Q := c_stk i_11_43 rfl
theorem q_11_50 : XX d 11 50 [some (.ref a)] st A Q ↔ XX d 11 51 [some (.ref a)] (.ref a :: st) A Q := c_lcl i_11_50 rfl rfl
theorem q_11_51 : XX d 11 51 [v0] st A Q ↔ XX d 11 53 [v0] (.int (w 41) :: st) A Q := c_stk i_11_51 rfl
theorem q_11_58 : XX d 11 58 [some (.ref a)] st A Q ↔ XX d 11 59 [some (.ref a)] (.ref a :: st) A Q := c_lcl i_11_58 rfl rfl
theorem q_11_59 : XX d 11 59 [v0] st A Q ↔ XX d 11 61 [v0] (.int (w 41) :: st) A Q := c_stk i_11_59 rfl
theorem q_11_66 : XX d 11 66 [some (.ref a)] st A Q ↔ XX d 11 67 [some (.ref a)] (.ref a :: st) A Q := c_lcl i_11_66 rfl rfl
theorem q_11_67 : XX d 11 67 [v0] st A Q ↔ XX d 11 68 [v0] (.int (w 0) :: st) A Q := c_stk i_11_67 rfl
theorem q_11_71 : XX d 11 71 [v0] [] A Q ↔ Q (.inl none) A := e_retN i_11_71 rfl
theorem q_11_e : XC d 11 [.ref a0] A Q ↔ XX d 11 0 [some (.ref a0)] [] A Q := Iff.rfl
theorem i_12_0 : t_ins 12 0 = some (.aload_n 0) := by decide +kernel
theorem i_12_1 : t_ins 12 1 = some (.iconst 0) := by decide +kernel
theorem i_12_2 : t_ins 12 2 = some (.putfield 22) := by decide +kernel
theorem i_12_5 : t_ins 12 5 = some (.iconst 0) := by decide +kernel
theorem i_12_6 : t_ins 12 6 = some (.istore_n 3) := by decide +kernel
theorem i_12_7 : t_ins 12 7 = some (.iconst 0) := by decide +kernel
theorem i_12_8 : t_ins 12 8 = some (.istore 4) := by decide +kernel
theorem i_12_10 : t_ins 12 10 = some (.iconst 0) := by decide +kernel
theorem i_12_11 : t_ins 12 11 = some (.istore 5) := by decide +kernel
theorem i_12_13 : t_ins 12 13 = some (.iload 5) := by decide +kernel
theorem i_12_15 : t_ins 12 15 = some (.iload_n 2) := by decide +kernel
theorem i_12_16 : t_ins 12 16 = some (.if_icmp .ge 78) := by decide +kernel
theorem i_12_19 : t_ins 12 19 = some (.iload 5) := by decide +kernel
theorem i_12_21 : t_ins 12 21 = some (.aload_n 1) := by decide +kernel
theorem i_12_22 : t_ins 12 22 = some (.arraylength) := by decide +kernel
theorem i_12_23 : t_ins 12 23 = some (.if_icmp .ge 71) := by decide +kernel
theorem i_12_26 : t_ins 12 26 = some (.aload_n 1) := by decide +kernel
theorem i_12_27 : t_ins 12 27 = some (.iload 5) := by decide +kernel
theorem i_12_29 : t_ins 12 29 = some (.baload) := by decide +kernel
theorem i_12_30 : t_ins 12 30 = some (.istore 6) := by decide +kernel
theorem i_12_32 : t_ins 12 32 = some (.iload 6) := by decide +kernel
theorem i_12_34 : t_ins 12 34 = some (.invokestatic 42) := by decide +kernel
theorem i_12_37 : t_ins 12 37 = some (.ifCond .ne 18) := by decide +kernel
theorem i_12_40 : t_ins 12 40 = some (.iload 6) := by decide +kernel
theorem i_12_42 : t_ins 12 42 = some (.bipush 32) := by decide +kernel
theorem i_12_44 : t_ins 12 44 = some (.if_icmp .eq 5) := by decide +kernel
theorem i_12_47 : t_ins 12 47 = some (.iconst 0) := by decide +kernel
theorem i_12_48 : t_ins 12 48 = some (.ireturn) := by decide +kernel
theorem i_12_49 : t_ins 12 49 = some (.iconst 0) := by decide +kernel
theorem i_12_50 : t_ins 12 50 = some (.istore 4) := by decide +kernel
theorem i_12_52 : t_ins 12 52 = some (.goto 36) := by decide +kernel
theorem i_12_55 : t_ins 12 55 = some (.iload 4) := by decide +kernel
theorem i_12_57 : t_ins 12 57 = some (.ifCond .ne 23) := by decide +kernel
theorem i_12_60 : t_ins 12 60 = some (.aload_n 0) := by decide +kernel
theorem i_12_61 : t_ins 12 61 = some (.getfield 22) := by decide +kernel
theorem i_12_64 : t_ins 12 64 = some (.bipush 40) := by decide +kernel
theorem i_12_66 : t_ins 12 66 = some (.if_icmp .lt 5) := by decide +kernel
theorem i_12_69 : t_ins 12 69 = some (.iconst 0) := by decide +kernel
theorem i_12_70 : t_ins 12 70 = some (.ireturn) := by decide +kernel
theorem i_12_71 : t_ins 12 71 = some (.aload_n 0) := by decide +kernel
theorem i_12_72 : t_ins 12 72 = some (.iload_n 3) := by decide +kernel
theorem i_12_73 : t_ins 12 73 = some (.invokevirtual 46) := by decide +kernel
theorem i_12_76 : t_ins 12 76 = some (.istore_n 3) := by decide +kernel
theorem i_12_77 : t_ins 12 77 = some (.iconst 1) := by decide +kernel
theorem i_12_78 : t_ins 12 78 = some (.istore 4) := by decide +kernel
theorem i_12_80 : t_ins 12 80 = some (.aload_n 0) := by decide +kernel
theorem i_12_81 : t_ins 12 81 = some (.iload 6) := by decide +kernel
theorem i_12_83 : t_ins 12 83 = some (.iload_n 3) := by decide +kernel
theorem i_12_84 : t_ins 12 84 = some (.invokevirtual 50) := by decide +kernel
theorem i_12_87 : t_ins 12 87 = some (.istore_n 3) := by decide +kernel
theorem i_12_88 : t_ins 12 88 = some (.iinc 5 1) := by decide +kernel
theorem i_12_91 : t_ins 12 91 = some (.goto (-78)) := by decide +kernel
theorem i_12_94 : t_ins 12 94 = some (.iconst 1) := by decide +kernel
theorem i_12_95 : t_ins 12 95 = some (.ireturn) := by decide +kernel
theorem q_12_0 : XX d 12 0 [some (.ref a), v1, v2, v3, v4, v5, v6] st A Q ↔ XX d 12 1 [some (.ref a), v1, v2, v3, v4, v5, v6] (.ref a :: st) A Q := c_lcl i_12_0 rfl rfl
theorem q_12_1 : XX d 12 1 [v0, v1, v2, v3, v4, v5, v6] st A Q ↔ XX d 12 2 [v0, v1, v2, v3, v4, v5, v6] (.int (w 0) :: st) A Q := c_stk i_12_1 rfl
theorem q_12_2 : XX d 12 2 [v0, v1, v2, v3, v4, v5, v6] (.int x :: .ref a :: st) (mk S I L R G) Q ↔ S a = some (.inr 2) ∧ XX d 12 5 [v0, v1, v2, v3, v4, v5, v6] st (mk S (wr I a (up (I a) 3 x)) L R G) Q := r_pf i_12_2 rfl (by decide) rfl rfl rfl
theorem q_12_5 : XX d 12 5 [v0, v1, v2, v3, v4, v5, v6] st A Q ↔ XX d 12 6 [v0, v1, v2, v3, v4, v5, v6] (.int (w 0) :: st) A Q := c_stk i_12_5 rfl
theorem q_12_6 : XX d 12 6 [v0, v1, some (.int z), v3, v4, v5, v6] (.int x :: st) A Q ↔ XX d 12 7 [v0, v1, some (.int z), some (.int x), v4, v5, v6] st A Q := c_lcl i_12_6 rfl rfl
theorem q_12_7 : XX d 12 7 [v0, v1, v2, v3, v4, v5, v6] st A Q ↔ XX d 12 8 [v0, v1, v2, v3, v4, v5, v6] (.int (w 0) :: st) A Q := c_stk i_12_7 rfl
theorem q_12_8 : XX d 12 8 [v0, v1, v2, some (.int z), v4, v5, v6] (.int x :: st) A Q ↔ XX d 12 10 [v0, v1, v2, some (.int z), some (.int x), v5, v6] st A Q := c_lcl i_12_8 rfl rfl
theorem q_12_10 : XX d 12 10 [v0, v1, v2, v3, v4, v5, v6] st A Q ↔ XX d 12 11 [v0, v1, v2, v3, v4, v5, v6] (.int (w 0) :: st) A Q := c_stk i_12_10 rfl
theorem q_12_11 : XX d 12 11 [v0, v1, v2, v3, some (.int z), v5, v6] (.int x :: st) A Q ↔ XX d 12 13 [v0, v1, v2, v3, some (.int z), some (.int x), v6] st A Q := c_lcl i_12_11 rfl rfl
theorem q_12_13 : XX d 12 13 [v0, v1, v2, v3, v4, some (.int x), v6] st A Q ↔ XX d 12 15 [v0, v1, v2, v3, v4, some (.int x), v6] (.int x :: st) A Q := c_lcl i_12_13 rfl rfl
theorem q_12_15 : XX d 12 15 [v0, v1, some (.int x), v3, v4, v5, v6] st A Q ↔ XX d 12 16 [v0, v1, some (.int x), v3, v4, v5, v6] (.int x :: st) A Q := c_lcl i_12_15 rfl rfl
theorem q_12_16 : XX d 12 16 [v0, v1, v2, v3, v4, v5, v6] (.int y :: .int x :: st) A Q ↔ if x < y then XX d 12 19 [v0, v1, v2, v3, v4, v5, v6] st A Q else XX d 12 94 [v0, v1, v2, v3, v4, v5, v6] st A Q := b_ge i_12_16 rfl rfl rfl
theorem q_12_19 : XX d 12 19 [v0, v1, v2, v3, v4, some (.int x), v6] st A Q ↔ XX d 12 21 [v0, v1, v2, v3, v4, some (.int x), v6] (.int x :: st) A Q := c_lcl i_12_19 rfl rfl
theorem q_12_21 : XX d 12 21 [v0, some (.ref a), v2, v3, v4, v5, v6] st A Q ↔ XX d 12 22 [v0, some (.ref a), v2, v3, v4, v5, v6] (.ref a :: st) A Q := c_lcl i_12_21 rfl rfl
theorem q_12_22 : XX d 12 22 [v0, v1, v2, v3, v4, v5, v6] (.ref a :: st) (mk S I L R G) Q ↔ alP (S a) (fun n => XX d 12 23 [v0, v1, v2, v3, v4, v5, v6] (.int n :: st) (mk S I L R G) Q) := r_al i_12_22
theorem q_12_23 : XX d 12 23 [v0, v1, v2, v3, v4, v5, v6] (.int y :: .int x :: st) A Q ↔ if x < y then XX d 12 26 [v0, v1, v2, v3, v4, v5, v6] st A Q else XX d 12 94 [v0, v1, v2, v3, v4, v5, v6] st A Q := b_ge i_12_23 rfl rfl rfl
theorem q_12_26 : XX d 12 26 [v0, some (.ref a), v2, v3, v4, v5, v6] st A Q ↔ XX d 12 27 [v0, some (.ref a), v2, v3, v4, v5, v6] (.ref a :: st) A Q := c_lcl i_12_26 rfl rfl
theorem q_12_27 : XX d 12 27 [v0, v1, v2, v3, v4, some (.int x), v6] st A Q ↔ XX d 12 29 [v0, v1, v2, v3, v4, some (.int x), v6] (.int x :: st) A Q := c_lcl i_12_27 rfl rfl
theorem q_12_29 : XX d 12 29 [v0, v1, v2, v3, v4, v5, v6] (.int x :: .ref a :: st) (mk S I L R G) Q ↔ inA (S a) ok_b x ∧ XX d 12 30 [v0, v1, v2, v3, v4, v5, v6] (.int (I a (ix x)) :: st) (mk S I L R G) Q := r_ba i_12_29
theorem q_12_30 : XX d 12 30 [v0, v1, v2, v3, v4, some (.int z), v6] (.int x :: st) A Q ↔ XX d 12 32 [v0, v1, v2, v3, v4, some (.int z), some (.int x)] st A Q := c_lcl i_12_30 rfl rfl
theorem q_12_32 : XX d 12 32 [v0, v1, v2, v3, v4, v5, some (.int x)] st A Q ↔ XX d 12 34 [v0, v1, v2, v3, v4, v5, some (.int x)] (.int x :: st) A Q := c_lcl i_12_32 rfl rfl
theorem q_12_34 : XX (d + 1) 12 34 [v0, v1, v2, v3, v4, v5, v6] [.int x0] A Q ↔ XC d 148 [.int x0] A (XK (d + 1) 12 34 [v0, v1, v2, v3, v4, v5, v6] [] Q) := c_callS i_12_34 rfl rfl rfl rfl (Nat.le_of_ble_eq_true rfl) (Nat.le_of_ble_eq_true rfl)
theorem q_12_37 : XX d 12 37 [v0, v1, v2, v3, v4, v5, v6] (.int x :: st) A Q ↔ if x = w 0 then XX d 12 40 [v0, v1, v2, v3, v4, v5, v6] st A Q else XX d 12 55 [v0, v1, v2, v3, v4, v5, v6] st A Q := z_ne i_12_37 rfl rfl rfl
theorem q_12_40 : XX d 12 40 [v0, v1, v2, v3, v4, v5, some (.int x)] st A Q ↔ XX d 12 42 [v0, v1, v2, v3, v4, v5, some (.int x)] (.int x :: st) A Q := c_lcl i_12_40 rfl rfl
theorem q_12_42 : XX d 12 42 [v0, v1, v2, v3, v4, v5, v6] st A Q ↔ XX d 12 44 [v0, v1, v2, v3, v4, v5, v6] (.int (w 32) :: st) A Q := c_stk i_12_42 rfl
theorem q_12_44 : XX d 12 44 [v0, v1, v2, v3, v4, v5, v6] (.int y :: .int x :: st) A Q ↔ if x = y then XX d 12 49 [v0, v1, v2, v3, v4, v5, v6] st A Q else XX d 12 47 [v0, v1, v2, v3, v4, v5, v6] st A Q := b_eq i_12_44 rfl rfl rfl
theorem q_12_47 : XX d 12 47 [v0, v1, v2, v3, v4, v5, v6] st A Q ↔ XX d 12 48 [v0, v1, v2, v3, v4, v5, v6] (.int (w 0) :: st) A Q := c_stk i_12_47 rfl
theorem q_12_48 : XX d 12 48 [v0, v1, v2, v3, v4, v5, v6] [.int x] A Q ↔ (x = w 0 ∨ x = w 1) ∧ Q (.inl (some (.int x))) A := e_retZ i_12_48 rfl
theorem q_12_49 : XX d 12 49 [v0, v1, v2, v3, v4, v5, v6] st A Q ↔ XX d 12 50 [v0, v1, v2, v3, v4, v5, v6] (.int (w 0) :: st) A Q := c_stk i_12_49 rfl
theorem q_12_50 : XX d 12 50 [v0, v1, v2, some (.int z), v4, v5, v6] (.int x :: st) A Q ↔ XX d 12 52 [v0, v1, v2, some (.int z), some (.int x), v5, v6] st A Q := c_lcl i_12_50 rfl rfl
theorem q_12_52 : XX d 12 52 [v0, v1, v2, v3, v4, v5, v6] st A Q ↔ XX d 12 88 [v0, v1, v2, v3, v4, v5, v6] st A Q := c_go i_12_52 rfl rfl
theorem q_12_55 : XX d 12 55 [v0, v1, v2, v3, some (.int x), v5, v6] st A Q ↔ XX d 12 57 [v0, v1, v2, v3, some (.int x), v5, v6] (.int x :: st) A Q := c_lcl i_12_55 rfl rfl
theorem q_12_57 : XX d 12 57 [v0, v1, v2, v3, v4, v5, v6] (.int x :: st) A Q ↔ if x = w 0 then XX d 12 60 [v0, v1, v2, v3, v4, v5, v6] st A Q else XX d 12 80 [v0, v1, v2, v3, v4, v5, v6] st A Q := z_ne i_12_57 rfl rfl rfl
theorem q_12_60 : XX d 12 60 [some (.ref a), v1, v2, v3, v4, v5, v6] st A Q ↔ XX d 12 61 [some (.ref a), v1, v2, v3, v4, v5, v6] (.ref a :: st) A Q := c_lcl i_12_60 rfl rfl
theorem q_12_61 : XX d 12 61 [v0, v1, v2, v3, v4, v5, v6] (.ref a :: st) (mk S I L R G) Q ↔ S a = some (.inr 2) ∧ XX d 12 64 [v0, v1, v2, v3, v4, v5, v6] (.int (I a 3) :: st) (mk S I L R G) Q := r_gf i_12_61 rfl (by decide) rfl
theorem q_12_64 : XX d 12 64 [v0, v1, v2, v3, v4, v5, v6] st A Q ↔ XX d 12 66 [v0, v1, v2, v3, v4, v5, v6] (.int (w 40) :: st) A Q := c_stk i_12_64 rfl
theorem q_12_66 : XX d 12 66 [v0, v1, v2, v3, v4, v5, v6] (.int y :: .int x :: st) A Q ↔ if x < y then XX d 12 71 [v0, v1, v2, v3, v4, v5, v6] st A Q else XX d 12 69 [v0, v1, v2, v3, v4, v5, v6] st A Q := b_lt i_12_66 rfl rfl rfl
theorem q_12_69 : XX d 12 69 [v0, v1, v2, v3, v4, v5, v6] st A Q ↔ XX d 12 70 [v0, v1, v2, v3, v4, v5, v6] (.int (w 0) :: st) A Q := c_stk i_12_69 rfl
theorem q_12_70 : XX d 12 70 [v0, v1, v2, v3, v4, v5, v6] [.int x] A Q ↔ (x = w 0 ∨ x = w 1) ∧ Q (.inl (some (.int x))) A := e_retZ i_12_70 rfl
theorem q_12_71 : XX d 12 71 [some (.ref a), v1, v2, v3, v4, v5, v6] st A Q ↔ XX d 12 72 [some (.ref a), v1, v2, v3, v4, v5, v6] (.ref a :: st) A Q := c_lcl i_12_71 rfl rfl
theorem q_12_72 : XX d 12 72 [v0, v1, v2, some (.int x), v4, v5, v6] st A Q ↔ XX d 12 73 [v0, v1, v2, some (.int x), v4, v5, v6] (.int x :: st) A Q := c_lcl i_12_72 rfl rfl
theorem q_12_73 : XX (d + 1) 12 73 [v0, v1, v2, v3, v4, v5, v6] [.int x1, .ref a0] (mk S I L R G) Q ↔ S a0 = some (.inr 2) ∧ XC d 13 [.ref a0, .int x1] (mk S I L R G) (XK (d + 1) 12 73 [v0, v1, v2, v3, v4, v5, v6] [] Q) := c_callV i_12_73 rfl rfl rfl rfl (Nat.le_of_ble_eq_true rfl) (Nat.le_of_ble_eq_true rfl) rfl
theorem q_12_76 : XX d 12 76 [v0, v1, some (.int z), v3, v4, v5, v6] (.int x :: st) A Q ↔ XX d 12 77 [v0, v1, some (.int z), some (.int x), v4, v5, v6] st A Q := c_lcl i_12_76 rfl rfl
theorem q_12_77 : XX d 12 77 [v0, v1, v2, v3, v4, v5, v6] st A Q ↔ XX d 12 78 [v0, v1, v2, v3, v4, v5, v6] (.int (w 1) :: st) A Q := c_stk i_12_77 rfl
theorem q_12_78 : XX d 12 78 [v0, v1, v2, some (.int z), v4, v5, v6] (.int x :: st) A Q ↔ XX d 12 80 [v0, v1, v2, some (.int z), some (.int x), v5, v6] st A Q := c_lcl i_12_78 rfl rfl
theorem q_12_80 : XX d 12 80 [some (.ref a), v1, v2, v3, v4, v5, v6] st A Q ↔ XX d 12 81 [some (.ref a), v1, v2, v3, v4, v5, v6] (.ref a :: st) A Q := c_lcl i_12_80 rfl rfl
theorem q_12_81 : XX d 12 81 [v0, v1, v2, v3, v4, v5, some (.int x)] st A Q ↔ XX d 12 83 [v0, v1, v2, v3, v4, v5, some (.int x)] (.int x :: st) A Q := c_lcl i_12_81 rfl rfl
theorem q_12_83 : XX d 12 83 [v0, v1, v2, some (.int x), v4, v5, v6] st A Q ↔ XX d 12 84 [v0, v1, v2, some (.int x), v4, v5, v6] (.int x :: st) A Q := c_lcl i_12_83 rfl rfl
theorem q_12_84 : XX (d + 1) 12 84 [v0, v1, v2, v3, v4, v5, v6] [.int x2, .int x1, .ref a0] (mk S I L R G) Q ↔ S a0 = some (.inr 2) ∧ XC d 14 [.ref a0, .int x1, .int x2] (mk S I L R G) (XK (d + 1) 12 84 [v0, v1, v2, v3, v4, v5, v6] [] Q) := c_callV i_12_84 rfl rfl rfl rfl (Nat.le_of_ble_eq_true rfl) (Nat.le_of_ble_eq_true rfl) rfl
theorem q_12_87 : XX d 12 87 [v0, v1, some (.int z), v3, v4, v5, v6] (.int x :: st) A Q ↔ XX d 12 88 [v0, v1, some (.int z), some (.int x), v4, v5, v6] st A Q := c_lcl i_12_87 rfl rfl
theorem q_12_88 : XX d 12 88 [v0, v1, v2, v3, some (.int z), some (.int x), v6] st A Q ↔ XX d 12 91 [v0, v1, v2, v3, some (.int z), some (.int (x + w 1)), v6] st A Q := c_lcl i_12_88 rfl rfl
theorem q_12_91 : XX d 12 91 [v0, v1, v2, v3, v4, v5, v6] st A Q ↔ XX d 12 13 [v0, v1, v2, v3, v4, v5, v6] st A Q := c_go i_12_91 rfl rfl
theorem q_12_94 : XX d 12 94 [v0, v1, v2, v3, v4, v5, v6] st A Q ↔ XX d 12 95 [v0, v1, v2, v3, v4, v5, v6] (.int (w 1) :: st) A Q := c_stk i_12_94 rfl
theorem q_12_95 : XX d 12 95 [v0, v1, v2, v3, v4, v5, v6] [.int x] A Q ↔ (x = w 0 ∨ x = w 1) ∧ Q (.inl (some (.int x))) A := e_retZ i_12_95 rfl
theorem q_12_e : XC d 12 [.ref a0, .ref a1, .int x2] A Q ↔ XX d 12 0 [some (.ref a0), some (.ref a1), some (.int x2), none, none, none, none] [] A Q := Iff.rfl
theorem i_13_0 : t_ins 13 0 = some (.aload_n 0) := by decide +kernel
theorem i_13_1 : t_ins 13 1 = some (.getfield 22) := by decide +kernel
theorem i_13_4 : t_ins 13 4 = some (.ifCond .ne 7) := by decide +kernel
theorem i_13_7 : t_ins 13 7 = some (.iload_n 1) := by decide +kernel
theorem i_13_8 : t_ins 13 8 = some (.goto 10) := by decide +kernel
theorem i_13_11 : t_ins 13 11 = some (.aload_n 0) := by decide +kernel
theorem i_13_12 : t_ins 13 12 = some (.bipush 32) := by decide +kernel
theorem i_13_14 : t_ins 13 14 = some (.iload_n 1) := by decide +kernel
theorem i_13_15 : t_ins 13 15 = some (.invokevirtual 54) := by decide +kernel
theorem i_13_18 : t_ins 13 18 = some (.istore_n 2) := by decide +kernel
theorem i_13_19 : t_ins 13 19 = some (.aload_n 0) := by decide +kernel
theorem i_13_20 : t_ins 13 20 = some (.getfield 22) := by decide +kernel
theorem i_13_23 : t_ins 13 23 = some (.ifCond .lt 32) := by decide +kernel
theorem i_13_26 : t_ins 13 26 = some (.aload_n 0) := by decide +kernel
theorem i_13_27 : t_ins 13 27 = some (.getfield 22) := by decide +kernel
theorem i_13_30 : t_ins 13 30 = some (.bipush 40) := by decide +kernel
theorem i_13_32 : t_ins 13 32 = some (.if_icmp .ge 23) := by decide +kernel
theorem i_13_35 : t_ins 13 35 = some (.aload_n 0) := by decide +kernel
theorem i_13_36 : t_ins 13 36 = some (.getfield 15) := by decide +kernel
theorem i_13_39 : t_ins 13 39 = some (.aload_n 0) := by decide +kernel
theorem i_13_40 : t_ins 13 40 = some (.getfield 22) := by decide +kernel
theorem i_13_43 : t_ins 13 43 = some (.iload_n 2) := by decide +kernel
theorem i_13_44 : t_ins 13 44 = some (.iastore) := by decide +kernel
theorem i_13_45 : t_ins 13 45 = some (.aload_n 0) := by decide +kernel
theorem i_13_46 : t_ins 13 46 = some (.dup) := by decide +kernel
theorem i_13_47 : t_ins 13 47 = some (.getfield 22) := by decide +kernel
theorem i_13_50 : t_ins 13 50 = some (.iconst 1) := by decide +kernel
theorem i_13_51 : t_ins 13 51 = some (.iadd) := by decide +kernel
theorem i_13_52 : t_ins 13 52 = some (.putfield 22) := by decide +kernel
theorem i_13_55 : t_ins 13 55 = some (.iload_n 2) := by decide +kernel
theorem i_13_56 : t_ins 13 56 = some (.ireturn) := by decide +kernel
theorem q_13_0 : XX d 13 0 [some (.ref a), v1, v2] st A Q ↔ XX d 13 1 [some (.ref a), v1, v2] (.ref a :: st) A Q := c_lcl i_13_0 rfl rfl
theorem q_13_1 : XX d 13 1 [v0, v1, v2] (.ref a :: st) (mk S I L R G) Q ↔ S a = some (.inr 2) ∧ XX d 13 4 [v0, v1, v2] (.int (I a 3) :: st) (mk S I L R G) Q := r_gf i_13_1 rfl (by decide) rfl
theorem q_13_4 : XX d 13 4 [v0, v1, v2] (.int x :: st) A Q ↔ if x = w 0 then XX d 13 7 [v0, v1, v2] st A Q else XX d 13 11 [v0, v1, v2] st A Q := z_ne i_13_4 rfl rfl rfl
theorem q_13_7 : XX d 13 7 [v0, some (.int x), v2] st A Q ↔ XX d 13 8 [v0, some (.int x), v2] (.int x :: st) A Q := c_lcl i_13_7 rfl rfl
theorem q_13_8 : XX d 13 8 [v0, v1, v2] st A Q ↔ XX d 13 18 [v0, v1, v2] st A Q := c_go i_13_8 rfl rfl
theorem q_13_11 : XX d 13 11 [some (.ref a), v1, v2] st A Q ↔ XX d 13 12 [some (.ref a), v1, v2] (.ref a :: st) A Q := c_lcl i_13_11 rfl rfl
theorem q_13_12 : XX d 13 12 [v0, v1, v2] st A Q ↔ XX d 13 14 [v0, v1, v2] (.int (w 32) :: st) A Q := c_stk i_13_12 rfl
theorem q_13_14 : XX d 13 14 [v0, some (.int x), v2] st A Q ↔ XX d 13 15 [v0, some (.int x), v2] (.int x :: st) A Q := c_lcl i_13_14 rfl rfl
theorem q_13_15 : XX (d + 1) 13 15 [v0, v1, v2] [.int x2, .int x1, .ref a0] (mk S I L R G) Q ↔ S a0 = some (.inr 2) ∧ XC d 15 [.ref a0, .int x1, .int x2] (mk S I L R G) (XK (d + 1) 13 15 [v0, v1, v2] [] Q) := c_callV i_13_15 rfl rfl rfl rfl (Nat.le_of_ble_eq_true rfl) (Nat.le_of_ble_eq_true rfl) rfl
theorem q_13_18 : XX d 13 18 [v0, some (.int z), v2] (.int x :: st) A Q ↔ XX d 13 19 [v0, some (.int z), some (.int x)] st A Q := c_lcl i_13_18 rfl rfl
theorem q_13_19 : XX d 13 19 [some (.ref a), v1, v2] st A Q ↔ XX d 13 20 [some (.ref a), v1, v2] (.ref a :: st) A Q := c_lcl i_13_19 rfl rfl
theorem q_13_20 : XX d 13 20 [v0, v1, v2] (.ref a :: st) (mk S I L R G) Q ↔ S a = some (.inr 2) ∧ XX d 13 23 [v0, v1, v2] (.int (I a 3) :: st) (mk S I L R G) Q := r_gf i_13_20 rfl (by decide) rfl
theorem q_13_23 : XX d 13 23 [v0, v1, v2] (.int x :: st) A Q ↔ if x < w 0 then XX d 13 55 [v0, v1, v2] st A Q else XX d 13 26 [v0, v1, v2] st A Q := z_lt i_13_23 rfl rfl rfl
theorem q_13_26 : XX d 13 26 [some (.ref a), v1, v2] st A Q ↔ XX d 13 27 [some (.ref a), v1, v2] (.ref a :: st) A Q := c_lcl i_13_26 rfl rfl
theorem q_13_27 : XX d 13 27 [v0, v1, v2] (.ref a :: st) (mk S I L R G) Q ↔ S a = some (.inr 2) ∧ XX d 13 30 [v0, v1, v2] (.int (I a 3) :: st) (mk S I L R G) Q := r_gf i_13_27 rfl (by decide) rfl
theorem q_13_30 : XX d 13 30 [v0, v1, v2] st A Q ↔ XX d 13 32 [v0, v1, v2] (.int (w 40) :: st) A Q := c_stk i_13_30 rfl
theorem q_13_32 : XX d 13 32 [v0, v1, v2] (.int y :: .int x :: st) A Q ↔ if x < y then XX d 13 35 [v0, v1, v2] st A Q else XX d 13 55 [v0, v1, v2] st A Q := b_ge i_13_32 rfl rfl rfl
theorem q_13_35 : XX d 13 35 [some (.ref a), v1, v2] st A Q ↔ XX d 13 36 [some (.ref a), v1, v2] (.ref a :: st) A Q := c_lcl i_13_35 rfl rfl
theorem q_13_36 : XX d 13 36 [v0, v1, v2] (.ref a :: st) (mk S I L R G) Q ↔ S a = some (.inr 2) ∧ XX d 13 39 [v0, v1, v2] (.ref (a + 2) :: st) (mk S I L R G) Q := r_gf i_13_36 rfl (by decide) rfl
theorem q_13_39 : XX d 13 39 [some (.ref a), v1, v2] st A Q ↔ XX d 13 40 [some (.ref a), v1, v2] (.ref a :: st) A Q := c_lcl i_13_39 rfl rfl
theorem q_13_40 : XX d 13 40 [v0, v1, v2] (.ref a :: st) (mk S I L R G) Q ↔ S a = some (.inr 2) ∧ XX d 13 43 [v0, v1, v2] (.int (I a 3) :: st) (mk S I L R G) Q := r_gf i_13_40 rfl (by decide) rfl
theorem q_13_43 : XX d 13 43 [v0, v1, some (.int x)] st A Q ↔ XX d 13 44 [v0, v1, some (.int x)] (.int x :: st) A Q := c_lcl i_13_43 rfl rfl
theorem q_13_44 : XX d 13 44 [v0, v1, v2] (.int y :: .int x :: .ref a :: st) (mk S I L R G) Q ↔ inA (S a) ok_0 x ∧ XX d 13 45 [v0, v1, v2] st (mk S (wr I a (up (I a) (ix x) y)) L R G) Q := r_ias i_13_44
theorem q_13_45 : XX d 13 45 [some (.ref a), v1, v2] st A Q ↔ XX d 13 46 [some (.ref a), v1, v2] (.ref a :: st) A Q := c_lcl i_13_45 rfl rfl
theorem q_13_46 : XX d 13 46 [v0, v1, v2] (.ref a1 :: st) A Q ↔ XX d 13 47 [v0, v1, v2] (.ref a1 :: .ref a1 :: st) A Q := c_stk i_13_46 rfl
theorem q_13_47 : XX d 13 47 [v0, v1, v2] (.ref a :: st) (mk S I L R G) Q ↔ S a = some (.inr 2) ∧ XX d 13 50 [v0, v1, v2] (.int (I a 3) :: st) (mk S I L R G) Q := r_gf i_13_47 rfl (by decide) rfl
theorem q_13_50 : XX d 13 50 [v0, v1, v2] st A Q ↔ XX d 13 51 [v0, v1, v2] (.int (w 1) :: st) A Q := c_stk i_13_50 rfl
theorem q_13_51 : XX d 13 51 [v0, v1, v2] (.int y :: .int x :: st) A Q ↔ XX d 13 52 [v0, v1, v2] (.int (x + y) :: st) A Q := c_stk i_13_51 rfl
theorem q_13_52 : XX d 13 52 [v0, v1, v2] (.int x :: .ref a :: st) (mk S I L R G) Q ↔ S a = some (.inr 2) ∧ XX d 13 55 [v0, v1, v2] st (mk S (wr I a (up (I a) 3 x)) L R G) Q := r_pf i_13_52 rfl (by decide) rfl rfl rfl
theorem q_13_55 : XX d 13 55 [v0, v1, some (.int x)] st A Q ↔ XX d 13 56 [v0, v1, some (.int x)] (.int x :: st) A Q := c_lcl i_13_55 rfl rfl
theorem q_13_56 : XX d 13 56 [v0, v1, v2] [.int x] A Q ↔ Q (.inl (some (.int x))) A := e_retI i_13_56 rfl
theorem q_13_e : XC d 13 [.ref a0, .int x1] A Q ↔ XX d 13 0 [some (.ref a0), some (.int x1), none] [] A Q := Iff.rfl
theorem i_14_0 : t_ins 14 0 = some (.aload_n 0) := by decide +kernel
theorem i_14_1 : t_ins 14 1 = some (.iload_n 1) := by decide +kernel
theorem i_14_2 : t_ins 14 2 = some (.iload_n 2) := by decide +kernel
theorem i_14_3 : t_ins 14 3 = some (.invokevirtual 54) := by decide +kernel
theorem i_14_6 : t_ins 14 6 = some (.istore_n 3) := by decide +kernel
theorem i_14_7 : t_ins 14 7 = some (.aload_n 0) := by decide +kernel
theorem i_14_8 : t_ins 14 8 = some (.getfield 22) := by decide +kernel
theorem i_14_11 : t_ins 14 11 = some (.ifCond .le 24) := by decide +kernel
theorem i_14_14 : t_ins 14 14 = some (.aload_n 0) := by decide +kernel
theorem i_14_15 : t_ins 14 15 = some (.getfield 22) := by decide +kernel
theorem i_14_18 : t_ins 14 18 = some (.bipush 40) := by decide +kernel
theorem i_14_20 : t_ins 14 20 = some (.if_icmp .gt 15) := by decide +kernel
theorem i_14_23 : t_ins 14 23 = some (.aload_n 0) := by decide +kernel
theorem i_14_24 : t_ins 14 24 = some (.getfield 19) := by decide +kernel
theorem i_14_27 : t_ins 14 27 = some (.aload_n 0) := by decide +kernel
theorem i_14_28 : t_ins 14 28 = some (.getfield 22) := by decide +kernel
theorem i_14_31 : t_ins 14 31 = some (.iconst 1) := by decide +kernel
theorem i_14_32 : t_ins 14 32 = some (.isub) := by decide +kernel
theorem i_14_33 : t_ins 14 33 = some (.iload_n 3) := by decide +kernel
theorem i_14_34 : t_ins 14 34 = some (.iastore) := by decide +kernel
theorem i_14_35 : t_ins 14 35 = some (.iload_n 3) := by decide +kernel
theorem i_14_36 : t_ins 14 36 = some (.ireturn) := by decide +kernel
theorem q_14_0 : XX d 14 0 [some (.ref a), v1, v2, v3] st A Q ↔ XX d 14 1 [some (.ref a), v1, v2, v3] (.ref a :: st) A Q := c_lcl i_14_0 rfl rfl
theorem q_14_1 : XX d 14 1 [v0, some (.int x), v2, v3] st A Q ↔ XX d 14 2 [v0, some (.int x), v2, v3] (.int x :: st) A Q := c_lcl i_14_1 rfl rfl
theorem q_14_2 : XX d 14 2 [v0, v1, some (.int x), v3] st A Q ↔ XX d 14 3 [v0, v1, some (.int x), v3] (.int x :: st) A Q := c_lcl i_14_2 rfl rfl
theorem q_14_3 : XX (d + 1) 14 3 [v0, v1, v2, v3] [.int x2, .int x1, .ref a0] (mk S I L R G) Q ↔ S a0 = some (.inr 2) ∧ XC d 15 [.ref a0, .int x1, .int x2] (mk S I L R G) (XK (d + 1) 14 3 [v0, v1, v2, v3] [] Q) := c_callV i_14_3 rfl rfl rfl rfl (Nat.le_of_ble_eq_true rfl) (Nat.le_of_ble_eq_true rfl) rfl
theorem q_14_6 : XX d 14 6 [v0, v1, some (.int z), v3] (.int x :: st) A Q ↔ XX d 14 7 [v0, v1, some (.int z), some (.int x)] st A Q := c_lcl i_14_6 rfl rfl
theorem q_14_7 : XX d 14 7 [some (.ref a), v1, v2, v3] st A Q ↔ XX d 14 8 [some (.ref a), v1, v2, v3] (.ref a :: st) A Q := c_lcl i_14_7 rfl rfl
theorem q_14_8 : XX d 14 8 [v0, v1, v2, v3] (.ref a :: st) (mk S I L R G) Q ↔ S a = some (.inr 2) ∧ XX d 14 11 [v0, v1, v2, v3] (.int (I a 3) :: st) (mk S I L R G) Q := r_gf i_14_8 rfl (by decide) rfl
theorem q_14_11 : XX d 14 11 [v0, v1, v2, v3] (.int x :: st) A Q ↔ if w 0 < x then XX d 14 14 [v0, v1, v2, v3] st A Q else XX d 14 35 [v0, v1, v2, v3] st A Q := z_le i_14_11 rfl rfl rfl
theorem q_14_14 : XX d 14 14 [some (.ref a), v1, v2, v3] st A Q ↔ XX d 14 15 [some (.ref a), v1, v2, v3] (.ref a :: st) A Q := c_lcl i_14_14 rfl rfl
theorem q_14_15 : XX d 14 15 [v0, v1, v2, v3] (.ref a :: st) (mk S I L R G) Q ↔ S a = some (.inr 2) ∧ XX d 14 18 [v0, v1, v2, v3] (.int (I a 3) :: st) (mk S I L R G) Q := r_gf i_14_15 rfl (by decide) rfl
theorem q_14_18 : XX d 14 18 [v0, v1, v2, v3] st A Q ↔ XX d 14 20 [v0, v1, v2, v3] (.int (w 40) :: st) A Q := c_stk i_14_18 rfl
theorem q_14_20 : XX d 14 20 [v0, v1, v2, v3] (.int y :: .int x :: st) A Q ↔ if y < x then XX d 14 35 [v0, v1, v2, v3] st A Q else XX d 14 23 [v0, v1, v2, v3] st A Q := b_gt i_14_20 rfl rfl rfl
theorem q_14_23 : XX d 14 23 [some (.ref a), v1, v2, v3] st A Q ↔ XX d 14 24 [some (.ref a), v1, v2, v3] (.ref a :: st) A Q := c_lcl i_14_23 rfl rfl
theorem q_14_24 : XX d 14 24 [v0, v1, v2, v3] (.ref a :: st) (mk S I L R G) Q ↔ S a = some (.inr 2) ∧ XX d 14 27 [v0, v1, v2, v3] (.ref (a + 3) :: st) (mk S I L R G) Q := r_gf i_14_24 rfl (by decide) rfl
theorem q_14_27 : XX d 14 27 [some (.ref a), v1, v2, v3] st A Q ↔ XX d 14 28 [some (.ref a), v1, v2, v3] (.ref a :: st) A Q := c_lcl i_14_27 rfl rfl
theorem q_14_28 : XX d 14 28 [v0, v1, v2, v3] (.ref a :: st) (mk S I L R G) Q ↔ S a = some (.inr 2) ∧ XX d 14 31 [v0, v1, v2, v3] (.int (I a 3) :: st) (mk S I L R G) Q := r_gf i_14_28 rfl (by decide) rfl
theorem q_14_31 : XX d 14 31 [v0, v1, v2, v3] st A Q ↔ XX d 14 32 [v0, v1, v2, v3] (.int (w 1) :: st) A Q := c_stk i_14_31 rfl
theorem q_14_32 : XX d 14 32 [v0, v1, v2, v3] (.int y :: .int x :: st) A Q ↔ XX d 14 33 [v0, v1, v2, v3] (.int (x - y) :: st) A Q := c_stk i_14_32 rfl
theorem q_14_33 : XX d 14 33 [v0, v1, v2, some (.int x)] st A Q ↔ XX d 14 34 [v0, v1, v2, some (.int x)] (.int x :: st) A Q := c_lcl i_14_33 rfl rfl
theorem q_14_34 : XX d 14 34 [v0, v1, v2, v3] (.int y :: .int x :: .ref a :: st) (mk S I L R G) Q ↔ inA (S a) ok_0 x ∧ XX d 14 35 [v0, v1, v2, v3] st (mk S (wr I a (up (I a) (ix x) y)) L R G) Q := r_ias i_14_34
theorem q_14_35 : XX d 14 35 [v0, v1, v2, some (.int x)] st A Q ↔ XX d 14 36 [v0, v1, v2, some (.int x)] (.int x :: st) A Q := c_lcl i_14_35 rfl rfl
theorem q_14_36 : XX d 14 36 [v0, v1, v2, v3] [.int x] A Q ↔ Q (.inl (some (.int x))) A := e_retI i_14_36 rfl
theorem q_14_e : XC d 14 [.ref a0, .int x1, .int x2] A Q ↔ XX d 14 0 [some (.ref a0), some (.int x1), some (.int x2), none] [] A Q := Iff.rfl
theorem i_15_0 : t_ins 15 0 = some (.iload_n 2) := by decide +kernel
theorem i_15_1 : t_ins 15 1 = some (.ifCond .lt 12) := by decide +kernel
theorem i_15_4 : t_ins 15 4 = some (.iload_n 2) := by decide +kernel
theorem i_15_5 : t_ins 15 5 = some (.aload_n 0) := by decide +kernel
theorem i_15_6 : t_ins 15 6 = some (.getfield 9) := by decide +kernel
theorem i_15_9 : t_ins 15 9 = some (.arraylength) := by decide +kernel
theorem i_15_10 : t_ins 15 10 = some (.if_icmp .lt 5) := by decide +kernel
theorem i_15_13 : t_ins 15 13 = some (.iload_n 2) := by decide +kernel
theorem i_15_14 : t_ins 15 14 = some (.ireturn) := by decide +kernel
theorem i_15_15 : t_ins 15 15 = some (.aload_n 0) := by decide +kernel
theorem i_15_16 : t_ins 15 16 = some (.getfield 9) := by decide +kernel
theorem i_15_19 : t_ins 15 19 = some (.iload_n 2) := by decide +kernel
theorem i_15_20 : t_ins 15 20 = some (.iload_n 1) := by decide +kernel
theorem i_15_21 : t_ins 15 21 = some (.i2b) := by decide +kernel
theorem i_15_22 : t_ins 15 22 = some (.bastore) := by decide +kernel
theorem i_15_23 : t_ins 15 23 = some (.iload_n 2) := by decide +kernel
theorem i_15_24 : t_ins 15 24 = some (.iconst 1) := by decide +kernel
theorem i_15_25 : t_ins 15 25 = some (.iadd) := by decide +kernel
theorem i_15_26 : t_ins 15 26 = some (.ireturn) := by decide +kernel
theorem q_15_0 : XX d 15 0 [v0, v1, some (.int x)] st A Q ↔ XX d 15 1 [v0, v1, some (.int x)] (.int x :: st) A Q := c_lcl i_15_0 rfl rfl
theorem q_15_1 : XX d 15 1 [v0, v1, v2] (.int x :: st) A Q ↔ if x < w 0 then XX d 15 13 [v0, v1, v2] st A Q else XX d 15 4 [v0, v1, v2] st A Q := z_lt i_15_1 rfl rfl rfl
theorem q_15_4 : XX d 15 4 [v0, v1, some (.int x)] st A Q ↔ XX d 15 5 [v0, v1, some (.int x)] (.int x :: st) A Q := c_lcl i_15_4 rfl rfl
theorem q_15_5 : XX d 15 5 [some (.ref a), v1, v2] st A Q ↔ XX d 15 6 [some (.ref a), v1, v2] (.ref a :: st) A Q := c_lcl i_15_5 rfl rfl
theorem q_15_6 : XX d 15 6 [v0, v1, v2] (.ref a :: st) (mk S I L R G) Q ↔ S a = some (.inr 2) ∧ XX d 15 9 [v0, v1, v2] (.ref (a + 1) :: st) (mk S I L R G) Q := r_gf i_15_6 rfl (by decide) rfl
theorem q_15_9 : XX d 15 9 [v0, v1, v2] (.ref a :: st) (mk S I L R G) Q ↔ alP (S a) (fun n => XX d 15 10 [v0, v1, v2] (.int n :: st) (mk S I L R G) Q) := r_al i_15_9
theorem q_15_10 : XX d 15 10 [v0, v1, v2] (.int y :: .int x :: st) A Q ↔ if x < y then XX d 15 15 [v0, v1, v2] st A Q else XX d 15 13 [v0, v1, v2] st A Q := b_lt i_15_10 rfl rfl rfl
theorem q_15_13 : XX d 15 13 [v0, v1, some (.int x)] st A Q ↔ XX d 15 14 [v0, v1, some (.int x)] (.int x :: st) A Q := c_lcl i_15_13 rfl rfl
theorem q_15_14 : XX d 15 14 [v0, v1, v2] [.int x] A Q ↔ Q (.inl (some (.int x))) A := e_retI i_15_14 rfl
theorem q_15_15 : XX d 15 15 [some (.ref a), v1, v2] st A Q ↔ XX d 15 16 [some (.ref a), v1, v2] (.ref a :: st) A Q := c_lcl i_15_15 rfl rfl
theorem q_15_16 : XX d 15 16 [v0, v1, v2] (.ref a :: st) (mk S I L R G) Q ↔ S a = some (.inr 2) ∧ XX d 15 19 [v0, v1, v2] (.ref (a + 1) :: st) (mk S I L R G) Q := r_gf i_15_16 rfl (by decide) rfl
theorem q_15_19 : XX d 15 19 [v0, v1, some (.int x)] st A Q ↔ XX d 15 20 [v0, v1, some (.int x)] (.int x :: st) A Q := c_lcl i_15_19 rfl rfl
theorem q_15_20 : XX d 15 20 [v0, some (.int x), v2] st A Q ↔ XX d 15 21 [v0, some (.int x), v2] (.int x :: st) A Q := c_lcl i_15_20 rfl rfl
theorem q_15_21 : XX d 15 21 [v0, v1, v2] (.int x :: st) A Q ↔ XX d 15 22 [v0, v1, v2] (.int x.toInt8.toInt32 :: st) A Q := c_stk i_15_21 rfl
theorem q_15_22 : XX d 15 22 [v0, v1, v2] (.int y :: .int x :: .ref a :: st) (mk S I L R G) Q ↔ bsP (S a) x y (fun y => XX d 15 23 [v0, v1, v2] st (mk S (wr I a (up (I a) (ix x) y)) L R G) Q) := r_bas i_15_22
theorem q_15_23 : XX d 15 23 [v0, v1, some (.int x)] st A Q ↔ XX d 15 24 [v0, v1, some (.int x)] (.int x :: st) A Q := c_lcl i_15_23 rfl rfl
theorem q_15_24 : XX d 15 24 [v0, v1, v2] st A Q ↔ XX d 15 25 [v0, v1, v2] (.int (w 1) :: st) A Q := c_stk i_15_24 rfl
theorem q_15_25 : XX d 15 25 [v0, v1, v2] (.int y :: .int x :: st) A Q ↔ XX d 15 26 [v0, v1, v2] (.int (x + y) :: st) A Q := c_stk i_15_25 rfl
theorem q_15_26 : XX d 15 26 [v0, v1, v2] [.int x] A Q ↔ Q (.inl (some (.int x))) A := e_retI i_15_26 rfl
theorem q_15_e : XC d 15 [.ref a0, .int x1, .int x2] A Q ↔ XX d 15 0 [some (.ref a0), some (.int x1), some (.int x2)] [] A Q := Iff.rfl
theorem i_16_0 : t_ins 16 0 = some (.aload_n 0) := by decide +kernel
theorem i_16_1 : t_ins 16 1 = some (.iconst 0) := by decide +kernel
theorem i_16_2 : t_ins 16 2 = some (.putfield 39) := by decide +kernel
theorem i_16_5 : t_ins 16 5 = some (.aload_n 0) := by decide +kernel
theorem i_16_6 : t_ins 16 6 = some (.getfield 26) := by decide +kernel
theorem i_16_9 : t_ins 16 9 = some (.aload_n 0) := by decide +kernel
theorem i_16_10 : t_ins 16 10 = some (.getfield 22) := by decide +kernel
theorem i_16_13 : t_ins 16 13 = some (.lconst 1) := by decide +kernel
theorem i_16_14 : t_ins 16 14 = some (.lastore) := by decide +kernel
theorem i_16_15 : t_ins 16 15 = some (.aload_n 0) := by decide +kernel
theorem i_16_16 : t_ins 16 16 = some (.getfield 30) := by decide +kernel
theorem i_16_19 : t_ins 16 19 = some (.aload_n 0) := by decide +kernel
theorem i_16_20 : t_ins 16 20 = some (.getfield 22) := by decide +kernel
theorem i_16_23 : t_ins 16 23 = some (.iconst 0) := by decide +kernel
theorem i_16_24 : t_ins 16 24 = some (.iastore) := by decide +kernel
theorem i_16_25 : t_ins 16 25 = some (.aload_n 0) := by decide +kernel
theorem i_16_26 : t_ins 16 26 = some (.getfield 22) := by decide +kernel
theorem i_16_29 : t_ins 16 29 = some (.iconst 1) := by decide +kernel
theorem i_16_30 : t_ins 16 30 = some (.isub) := by decide +kernel
theorem i_16_31 : t_ins 16 31 = some (.istore_n 2) := by decide +kernel
theorem i_16_32 : t_ins 16 32 = some (.iload_n 2) := by decide +kernel
theorem i_16_33 : t_ins 16 33 = some (.ifCond .lt 15) := by decide +kernel
theorem i_16_36 : t_ins 16 36 = some (.aload_n 0) := by decide +kernel
theorem i_16_37 : t_ins 16 37 = some (.aload_n 1) := by decide +kernel
theorem i_16_38 : t_ins 16 38 = some (.iload_n 2) := by decide +kernel
theorem i_16_39 : t_ins 16 39 = some (.invokevirtual 57) := by decide +kernel
theorem i_16_42 : t_ins 16 42 = some (.iinc 2 (-1)) := by decide +kernel
theorem i_16_45 : t_ins 16 45 = some (.goto (-13)) := by decide +kernel
theorem i_16_48 : t_ins 16 48 = some (.return_) := by decide +kernel
theorem q_16_0 : XX d 16 0 [some (.ref a), v1, v2] st A Q ↔ XX d 16 1 [some (.ref a), v1, v2] (.ref a :: st) A Q := c_lcl i_16_0 rfl rfl
theorem q_16_1 : XX d 16 1 [v0, v1, v2] st A Q ↔ XX d 16 2 [v0, v1, v2] (.int (w 0) :: st) A Q := c_stk i_16_1 rfl
theorem q_16_2 : XX d 16 2 [v0, v1, v2] (.int x :: .ref a :: st) (mk S I L R G) Q ↔ S a = some (.inr 2) ∧ XX d 16 5 [v0, v1, v2] st (mk S (wr I a (up (I a) 8 x)) L R G) Q := r_pf i_16_2 rfl (by decide) rfl rfl rfl
theorem q_16_5 : XX d 16 5 [some (.ref a), v1, v2] st A Q ↔ XX d 16 6 [some (.ref a), v1, v2] (.ref a :: st) A Q := c_lcl i_16_5 rfl rfl
theorem q_16_6 : XX d 16 6 [v0, v1, v2] (.ref a :: st) (mk S I L R G) Q ↔ S a = some (.inr 2) ∧ XX d 16 9 [v0, v1, v2] (.ref (a + 4) :: st) (mk S I L R G) Q := r_gf i_16_6 rfl (by decide) rfl
theorem q_16_9 : XX d 16 9 [some (.ref a), v1, v2] st A Q ↔ XX d 16 10 [some (.ref a), v1, v2] (.ref a :: st) A Q := c_lcl i_16_9 rfl rfl
theorem q_16_10 : XX d 16 10 [v0, v1, v2] (.ref a :: st) (mk S I L R G) Q ↔ S a = some (.inr 2) ∧ XX d 16 13 [v0, v1, v2] (.int (I a 3) :: st) (mk S I L R G) Q := r_gf i_16_10 rfl (by decide) rfl
theorem q_16_13 : XX d 16 13 [v0, v1, v2] st A Q ↔ XX d 16 14 [v0, v1, v2] (.long (wl 1) :: st) A Q := c_stk i_16_13 rfl
theorem q_16_14 : XX d 16 14 [v0, v1, v2] (.long ly :: .int x :: .ref a :: st) (mk S I L R G) Q ↔ inA (S a) ok_l x ∧ XX d 16 15 [v0, v1, v2] st (mk S I (wr L a (up (L a) (ix x) ly)) R G) Q := r_las i_16_14
theorem q_16_15 : XX d 16 15 [some (.ref a), v1, v2] st A Q ↔ XX d 16 16 [some (.ref a), v1, v2] (.ref a :: st) A Q := c_lcl i_16_15 rfl rfl
theorem q_16_16 : XX d 16 16 [v0, v1, v2] (.ref a :: st) (mk S I L R G) Q ↔ S a = some (.inr 2) ∧ XX d 16 19 [v0, v1, v2] (.ref (a + 5) :: st) (mk S I L R G) Q := r_gf i_16_16 rfl (by decide) rfl
theorem q_16_19 : XX d 16 19 [some (.ref a), v1, v2] st A Q ↔ XX d 16 20 [some (.ref a), v1, v2] (.ref a :: st) A Q := c_lcl i_16_19 rfl rfl
theorem q_16_20 : XX d 16 20 [v0, v1, v2] (.ref a :: st) (mk S I L R G) Q ↔ S a = some (.inr 2) ∧ XX d 16 23 [v0, v1, v2] (.int (I a 3) :: st) (mk S I L R G) Q := r_gf i_16_20 rfl (by decide) rfl
theorem q_16_23 : XX d 16 23 [v0, v1, v2] st A Q ↔ XX d 16 24 [v0, v1, v2] (.int (w 0) :: st) A Q := c_stk i_16_23 rfl
theorem q_16_24 : XX d 16 24 [v0, v1, v2] (.int y :: .int x :: .ref a :: st) (mk S I L R G) Q ↔ inA (S a) ok_0 x ∧ XX d 16 25 [v0, v1, v2] st (mk S (wr I a (up (I a) (ix x) y)) L R G) Q := r_ias i_16_24
theorem q_16_25 : XX d 16 25 [some (.ref a), v1, v2] st A Q ↔ XX d 16 26 [some (.ref a), v1, v2] (.ref a :: st) A Q := c_lcl i_16_25 rfl rfl
theorem q_16_26 : XX d 16 26 [v0, v1, v2] (.ref a :: st) (mk S I L R G) Q ↔ S a = some (.inr 2) ∧ XX d 16 29 [v0, v1, v2] (.int (I a 3) :: st) (mk S I L R G) Q := r_gf i_16_26 rfl (by decide) rfl
theorem q_16_29 : XX d 16 29 [v0, v1, v2] st A Q ↔ XX d 16 30 [v0, v1, v2] (.int (w 1) :: st) A Q := c_stk i_16_29 rfl
theorem q_16_30 : XX d 16 30 [v0, v1, v2] (.int y :: .int x :: st) A Q ↔ XX d 16 31 [v0, v1, v2] (.int (x - y) :: st) A Q := c_stk i_16_30 rfl
theorem q_16_31 : XX d 16 31 [v0, some (.ref b), v2] (.int x :: st) A Q ↔ XX d 16 32 [v0, some (.ref b), some (.int x)] st A Q := c_lcl i_16_31 rfl rfl
theorem q_16_32 : XX d 16 32 [v0, v1, some (.int x)] st A Q ↔ XX d 16 33 [v0, v1, some (.int x)] (.int x :: st) A Q := c_lcl i_16_32 rfl rfl
theorem q_16_33 : XX d 16 33 [v0, v1, v2] (.int x :: st) A Q ↔ if x < w 0 then XX d 16 48 [v0, v1, v2] st A Q else XX d 16 36 [v0, v1, v2] st A Q := z_lt i_16_33 rfl rfl rfl
theorem q_16_36 : XX d 16 36 [some (.ref a), v1, v2] st A Q ↔ XX d 16 37 [some (.ref a), v1, v2] (.ref a :: st) A Q := c_lcl i_16_36 rfl rfl
theorem q_16_37 : XX d 16 37 [v0, some (.ref a), v2] st A Q ↔ XX d 16 38 [v0, some (.ref a), v2] (.ref a :: st) A Q := c_lcl i_16_37 rfl rfl
theorem q_16_38 : XX d 16 38 [v0, v1, some (.int x)] st A Q ↔ XX d 16 39 [v0, v1, some (.int x)] (.int x :: st) A Q := c_lcl i_16_38 rfl rfl
theorem q_16_39 : XX (d + 1) 16 39 [v0, v1, v2] [.int x2, .ref a1, .ref a0] (mk S I L R G) Q ↔ S a0 = some (.inr 2) ∧ XC d 17 [.ref a0, .ref a1, .int x2] (mk S I L R G) (XK (d + 1) 16 39 [v0, v1, v2] [] Q) := c_callV i_16_39 rfl rfl rfl rfl (Nat.le_of_ble_eq_true rfl) (Nat.le_of_ble_eq_true rfl) rfl
theorem q_16_42 : XX d 16 42 [v0, some (.ref b), some (.int x)] st A Q ↔ XX d 16 45 [v0, some (.ref b), some (.int (x + w (-1)))] st A Q := c_lcl i_16_42 rfl rfl
theorem q_16_45 : XX d 16 45 [v0, v1, v2] st A Q ↔ XX d 16 32 [v0, v1, v2] st A Q := c_go i_16_45 rfl rfl
theorem q_16_48 : XX d 16 48 [v0, v1, v2] [] A Q ↔ Q (.inl none) A := e_retN i_16_48 rfl
theorem q_16_e : XC d 16 [.ref a0, .ref a1] A Q ↔ XX d 16 0 [some (.ref a0), some (.ref a1), none] [] A Q := Iff.rfl
theorem i_17_0 : t_ins 17 0 = some (.aload_n 0) := by decide +kernel
theorem i_17_1 : t_ins 17 1 = some (.getfield 26) := by decide +kernel
theorem i_17_4 : t_ins 17 4 = some (.iload_n 2) := by decide +kernel
theorem i_17_5 : t_ins 17 5 = some (.lconst 0) := by decide +kernel
theorem i_17_6 : t_ins 17 6 = some (.lastore) := by decide +kernel
theorem i_17_7 : t_ins 17 7 = some (.aload_n 0) := by decide +kernel
theorem i_17_8 : t_ins 17 8 = some (.getfield 30) := by decide +kernel
theorem i_17_11 : t_ins 17 11 = some (.iload_n 2) := by decide +kernel
theorem i_17_12 : t_ins 17 12 = some (.iconst (-1)) := by decide +kernel
theorem i_17_13 : t_ins 17 13 = some (.iastore) := by decide +kernel
theorem i_17_14 : t_ins 17 14 = some (.iload_n 2) := by decide +kernel
theorem i_17_15 : t_ins 17 15 = some (.iconst 1) := by decide +kernel
theorem i_17_16 : t_ins 17 16 = some (.iadd) := by decide +kernel
theorem i_17_17 : t_ins 17 17 = some (.istore_n 3) := by decide +kernel
theorem i_17_18 : t_ins 17 18 = some (.iload_n 3) := by decide +kernel
theorem i_17_19 : t_ins 17 19 = some (.aload_n 0) := by decide +kernel
theorem i_17_20 : t_ins 17 20 = some (.getfield 22) := by decide +kernel
theorem i_17_23 : t_ins 17 23 = some (.if_icmp .gt 175) := by decide +kernel
theorem i_17_26 : t_ins 17 26 = some (.iload_n 3) := by decide +kernel
theorem i_17_27 : t_ins 17 27 = some (.bipush 40) := by decide +kernel
theorem i_17_29 : t_ins 17 29 = some (.if_icmp .gt 169) := by decide +kernel
theorem i_17_32 : t_ins 17 32 = some (.aload_n 0) := by decide +kernel
theorem i_17_33 : t_ins 17 33 = some (.getfield 19) := by decide +kernel
theorem i_17_36 : t_ins 17 36 = some (.iload_n 3) := by decide +kernel
theorem i_17_37 : t_ins 17 37 = some (.iconst 1) := by decide +kernel
theorem i_17_38 : t_ins 17 38 = some (.isub) := by decide +kernel
theorem i_17_39 : t_ins 17 39 = some (.iaload) := by decide +kernel
theorem i_17_40 : t_ins 17 40 = some (.aload_n 0) := by decide +kernel
theorem i_17_41 : t_ins 17 41 = some (.getfield 15) := by decide +kernel
theorem i_17_44 : t_ins 17 44 = some (.iload_n 2) := by decide +kernel
theorem i_17_45 : t_ins 17 45 = some (.iaload) := by decide +kernel
theorem i_17_46 : t_ins 17 46 = some (.isub) := by decide +kernel
theorem i_17_47 : t_ins 17 47 = some (.istore 4) := by decide +kernel
theorem i_17_49 : t_ins 17 49 = some (.iload 4) := by decide +kernel
theorem i_17_51 : t_ins 17 51 = some (.bipush 100) := by decide +kernel
theorem i_17_53 : t_ins 17 53 = some (.if_icmp .le 6) := by decide +kernel
theorem i_17_56 : t_ins 17 56 = some (.goto 142) := by decide +kernel
theorem i_17_59 : t_ins 17 59 = some (.aload_n 1) := by decide +kernel
theorem i_17_60 : t_ins 17 60 = some (.aload_n 0) := by decide +kernel
theorem i_17_61 : t_ins 17 61 = some (.getfield 9) := by decide +kernel
theorem i_17_64 : t_ins 17 64 = some (.aload_n 0) := by decide +kernel
theorem i_17_65 : t_ins 17 65 = some (.getfield 15) := by decide +kernel
theorem i_17_68 : t_ins 17 68 = some (.iload_n 2) := by decide +kernel
theorem i_17_69 : t_ins 17 69 = some (.iaload) := by decide +kernel
theorem i_17_70 : t_ins 17 70 = some (.iload 4) := by decide +kernel
theorem i_17_72 : t_ins 17 72 = some (.invokevirtual 61) := by decide +kernel
theorem i_17_75 : t_ins 17 75 = some (.istore 5) := by decide +kernel
theorem i_17_77 : t_ins 17 77 = some (.iload 5) := by decide +kernel
theorem i_17_79 : t_ins 17 79 = some (.ifCond .ne 6) := by decide +kernel
theorem i_17_82 : t_ins 17 82 = some (.goto 110) := by decide +kernel
theorem i_17_85 : t_ins 17 85 = some (.aload_n 0) := by decide +kernel
theorem i_17_86 : t_ins 17 86 = some (.dup) := by decide +kernel
theorem i_17_87 : t_ins 17 87 = some (.getfield 39) := by decide +kernel
theorem i_17_90 : t_ins 17 90 = some (.iconst 1) := by decide +kernel
theorem i_17_91 : t_ins 17 91 = some (.iadd) := by decide +kernel
theorem i_17_92 : t_ins 17 92 = some (.putfield 39) := by decide +kernel
theorem i_17_95 : t_ins 17 95 = some (.aload_n 0) := by decide +kernel
theorem i_17_96 : t_ins 17 96 = some (.getfield 26) := by decide +kernel
theorem i_17_99 : t_ins 17 99 = some (.iload_n 2) := by decide +kernel
theorem i_17_100 : t_ins 17 100 = some (.ldc2_w 67) := by decide +kernel
theorem i_17_103 : t_ins 17 103 = some (.aload_n 0) := by decide +kernel
theorem i_17_104 : t_ins 17 104 = some (.getfield 26) := by decide +kernel
theorem i_17_107 : t_ins 17 107 = some (.iload_n 2) := by decide +kernel
theorem i_17_108 : t_ins 17 108 = some (.laload) := by decide +kernel
theorem i_17_109 : t_ins 17 109 = some (.iload 5) := by decide +kernel
theorem i_17_111 : t_ins 17 111 = some (.i2l) := by decide +kernel
theorem i_17_112 : t_ins 17 112 = some (.aload_n 0) := by decide +kernel
theorem i_17_113 : t_ins 17 113 = some (.getfield 26) := by decide +kernel
theorem i_17_116 : t_ins 17 116 = some (.iload_n 3) := by decide +kernel
theorem i_17_117 : t_ins 17 117 = some (.laload) := by decide +kernel
theorem i_17_118 : t_ins 17 118 = some (.lmul) := by decide +kernel
theorem i_17_119 : t_ins 17 119 = some (.ladd) := by decide +kernel
theorem i_17_120 : t_ins 17 120 = some (.invokestatic 69) := by decide +kernel
theorem i_17_123 : t_ins 17 123 = some (.lastore) := by decide +kernel
theorem i_17_124 : t_ins 17 124 = some (.aload_n 0) := by decide +kernel
theorem i_17_125 : t_ins 17 125 = some (.getfield 30) := by decide +kernel
theorem i_17_128 : t_ins 17 128 = some (.iload_n 3) := by decide +kernel
theorem i_17_129 : t_ins 17 129 = some (.iaload) := by decide +kernel
theorem i_17_130 : t_ins 17 130 = some (.iconst (-1)) := by decide +kernel
theorem i_17_131 : t_ins 17 131 = some (.if_icmp .eq 61) := by decide +kernel
theorem i_17_134 : t_ins 17 134 = some (.aload_n 0) := by decide +kernel
theorem i_17_135 : t_ins 17 135 = some (.getfield 30) := by decide +kernel
theorem i_17_138 : t_ins 17 138 = some (.iload_n 2) := by decide +kernel
theorem i_17_139 : t_ins 17 139 = some (.iaload) := by decide +kernel
theorem i_17_140 : t_ins 17 140 = some (.iconst (-1)) := by decide +kernel
theorem i_17_141 : t_ins 17 141 = some (.if_icmp .eq 20) := by decide +kernel
theorem i_17_144 : t_ins 17 144 = some (.aload_n 0) := by decide +kernel
theorem i_17_145 : t_ins 17 145 = some (.getfield 30) := by decide +kernel
theorem i_17_148 : t_ins 17 148 = some (.iload_n 3) := by decide +kernel
theorem i_17_149 : t_ins 17 149 = some (.iaload) := by decide +kernel
theorem i_17_150 : t_ins 17 150 = some (.iconst 1) := by decide +kernel
theorem i_17_151 : t_ins 17 151 = some (.iadd) := by decide +kernel
theorem i_17_152 : t_ins 17 152 = some (.aload_n 0) := by decide +kernel
theorem i_17_153 : t_ins 17 153 = some (.getfield 30) := by decide +kernel
theorem i_17_156 : t_ins 17 156 = some (.iload_n 2) := by decide +kernel
theorem i_17_157 : t_ins 17 157 = some (.iaload) := by decide +kernel
theorem i_17_158 : t_ins 17 158 = some (.if_icmp .gt 34) := by decide +kernel
theorem i_17_161 : t_ins 17 161 = some (.aload_n 0) := by decide +kernel
theorem i_17_162 : t_ins 17 162 = some (.getfield 30) := by decide +kernel
theorem i_17_165 : t_ins 17 165 = some (.iload_n 2) := by decide +kernel
theorem i_17_166 : t_ins 17 166 = some (.aload_n 0) := by decide +kernel
theorem i_17_167 : t_ins 17 167 = some (.getfield 30) := by decide +kernel
theorem i_17_170 : t_ins 17 170 = some (.iload_n 3) := by decide +kernel
theorem i_17_171 : t_ins 17 171 = some (.iaload) := by decide +kernel
theorem i_17_172 : t_ins 17 172 = some (.iconst 1) := by decide +kernel
theorem i_17_173 : t_ins 17 173 = some (.iadd) := by decide +kernel
theorem i_17_174 : t_ins 17 174 = some (.iastore) := by decide +kernel
theorem i_17_175 : t_ins 17 175 = some (.aload_n 0) := by decide +kernel
theorem i_17_176 : t_ins 17 176 = some (.getfield 33) := by decide +kernel
theorem i_17_179 : t_ins 17 179 = some (.iload_n 2) := by decide +kernel
theorem i_17_180 : t_ins 17 180 = some (.iload_n 3) := by decide +kernel
theorem i_17_181 : t_ins 17 181 = some (.iastore) := by decide +kernel
theorem i_17_182 : t_ins 17 182 = some (.aload_n 0) := by decide +kernel
theorem i_17_183 : t_ins 17 183 = some (.getfield 36) := by decide +kernel
theorem i_17_186 : t_ins 17 186 = some (.iload_n 2) := by decide +kernel
theorem i_17_187 : t_ins 17 187 = some (.aload_n 1) := by decide +kernel
theorem i_17_188 : t_ins 17 188 = some (.invokevirtual 75) := by decide +kernel
theorem i_17_191 : t_ins 17 191 = some (.iastore) := by decide +kernel
theorem i_17_192 : t_ins 17 192 = some (.iinc 3 1) := by decide +kernel
theorem i_17_195 : t_ins 17 195 = some (.goto (-177)) := by decide +kernel
theorem i_17_198 : t_ins 17 198 = some (.return_) := by decide +kernel
theorem q_17_0 : XX d 17 0 [some (.ref a), v1, v2, v3, v4, v5] st A Q ↔ XX d 17 1 [some (.ref a), v1, v2, v3, v4, v5] (.ref a :: st) A Q := c_lcl i_17_0 rfl rfl
theorem q_17_1 : XX d 17 1 [v0, v1, v2, v3, v4, v5] (.ref a :: st) (mk S I L R G) Q ↔ S a = some (.inr 2) ∧ XX d 17 4 [v0, v1, v2, v3, v4, v5] (.ref (a + 4) :: st) (mk S I L R G) Q := r_gf i_17_1 rfl (by decide) rfl
theorem q_17_4 : XX d 17 4 [v0, v1, some (.int x), v3, v4, v5] st A Q ↔ XX d 17 5 [v0, v1, some (.int x), v3, v4, v5] (.int x :: st) A Q := c_lcl i_17_4 rfl rfl
theorem q_17_5 : XX d 17 5 [v0, v1, v2, v3, v4, v5] st A Q ↔ XX d 17 6 [v0, v1, v2, v3, v4, v5] (.long (wl 0) :: st) A Q := c_stk i_17_5 rfl
theorem q_17_6 : XX d 17 6 [v0, v1, v2, v3, v4, v5] (.long ly :: .int x :: .ref a :: st) (mk S I L R G) Q ↔ inA (S a) ok_l x ∧ XX d 17 7 [v0, v1, v2, v3, v4, v5] st (mk S I (wr L a (up (L a) (ix x) ly)) R G) Q := r_las i_17_6
theorem q_17_7 : XX d 17 7 [some (.ref a), v1, v2, v3, v4, v5] st A Q ↔ XX d 17 8 [some (.ref a), v1, v2, v3, v4, v5] (.ref a :: st) A Q := c_lcl i_17_7 rfl rfl
theorem q_17_8 : XX d 17 8 [v0, v1, v2, v3, v4, v5] (.ref a :: st) (mk S I L R G) Q ↔ S a = some (.inr 2) ∧ XX d 17 11 [v0, v1, v2, v3, v4, v5] (.ref (a + 5) :: st) (mk S I L R G) Q := r_gf i_17_8 rfl (by decide) rfl
theorem q_17_11 : XX d 17 11 [v0, v1, some (.int x), v3, v4, v5] st A Q ↔ XX d 17 12 [v0, v1, some (.int x), v3, v4, v5] (.int x :: st) A Q := c_lcl i_17_11 rfl rfl
theorem q_17_12 : XX d 17 12 [v0, v1, v2, v3, v4, v5] st A Q ↔ XX d 17 13 [v0, v1, v2, v3, v4, v5] (.int (w (-1)) :: st) A Q := c_stk i_17_12 rfl
theorem q_17_13 : XX d 17 13 [v0, v1, v2, v3, v4, v5] (.int y :: .int x :: .ref a :: st) (mk S I L R G) Q ↔ inA (S a) ok_0 x ∧ XX d 17 14 [v0, v1, v2, v3, v4, v5] st (mk S (wr I a (up (I a) (ix x) y)) L R G) Q := r_ias i_17_13
theorem q_17_14 : XX d 17 14 [v0, v1, some (.int x), v3, v4, v5] st A Q ↔ XX d 17 15 [v0, v1, some (.int x), v3, v4, v5] (.int x :: st) A Q := c_lcl i_17_14 rfl rfl
theorem q_17_15 : XX d 17 15 [v0, v1, v2, v3, v4, v5] st A Q ↔ XX d 17 16 [v0, v1, v2, v3, v4, v5] (.int (w 1) :: st) A Q := c_stk i_17_15 rfl
theorem q_17_16 : XX d 17 16 [v0, v1, v2, v3, v4, v5] (.int y :: .int x :: st) A Q ↔ XX d 17 17 [v0, v1, v2, v3, v4, v5] (.int (x + y) :: st) A Q := c_stk i_17_16 rfl
theorem q_17_17 : XX d 17 17 [v0, v1, some (.int z), v3, v4, v5] (.int x :: st) A Q ↔ XX d 17 18 [v0, v1, some (.int z), some (.int x), v4, v5] st A Q := c_lcl i_17_17 rfl rfl
theorem q_17_18 : XX d 17 18 [v0, v1, v2, some (.int x), v4, v5] st A Q ↔ XX d 17 19 [v0, v1, v2, some (.int x), v4, v5] (.int x :: st) A Q := c_lcl i_17_18 rfl rfl
theorem q_17_19 : XX d 17 19 [some (.ref a), v1, v2, v3, v4, v5] st A Q ↔ XX d 17 20 [some (.ref a), v1, v2, v3, v4, v5] (.ref a :: st) A Q := c_lcl i_17_19 rfl rfl
theorem q_17_20 : XX d 17 20 [v0, v1, v2, v3, v4, v5] (.ref a :: st) (mk S I L R G) Q ↔ S a = some (.inr 2) ∧ XX d 17 23 [v0, v1, v2, v3, v4, v5] (.int (I a 3) :: st) (mk S I L R G) Q := r_gf i_17_20 rfl (by decide) rfl
theorem q_17_23 : XX d 17 23 [v0, v1, v2, v3, v4, v5] (.int y :: .int x :: st) A Q ↔ if y < x then XX d 17 198 [v0, v1, v2, v3, v4, v5] st A Q else XX d 17 26 [v0, v1, v2, v3, v4, v5] st A Q := b_gt i_17_23 rfl rfl rfl
theorem q_17_26 : XX d 17 26 [v0, v1, v2, some (.int x), v4, v5] st A Q ↔ XX d 17 27 [v0, v1, v2, some (.int x), v4, v5] (.int x :: st) A Q := c_lcl i_17_26 rfl rfl
theorem q_17_27 : XX d 17 27 [v0, v1, v2, v3, v4, v5] st A Q ↔ XX d 17 29 [v0, v1, v2, v3, v4, v5] (.int (w 40) :: st) A Q := c_stk i_17_27 rfl
theorem q_17_29 : XX d 17 29 [v0, v1, v2, v3, v4, v5] (.int y :: .int x :: st) A Q ↔ if y < x then XX d 17 198 [v0, v1, v2, v3, v4, v5] st A Q else XX d 17 32 [v0, v1, v2, v3, v4, v5] st A Q := b_gt i_17_29 rfl rfl rfl
theorem q_17_32 : XX d 17 32 [some (.ref a), v1, v2, v3, v4, v5] st A Q ↔ XX d 17 33 [some (.ref a), v1, v2, v3, v4, v5] (.ref a :: st) A Q := c_lcl i_17_32 rfl rfl
theorem q_17_33 : XX d 17 33 [v0, v1, v2, v3, v4, v5] (.ref a :: st) (mk S I L R G) Q ↔ S a = some (.inr 2) ∧ XX d 17 36 [v0, v1, v2, v3, v4, v5] (.ref (a + 3) :: st) (mk S I L R G) Q := r_gf i_17_33 rfl (by decide) rfl
theorem q_17_36 : XX d 17 36 [v0, v1, v2, some (.int x), v4, v5] st A Q ↔ XX d 17 37 [v0, v1, v2, some (.int x), v4, v5] (.int x :: st) A Q := c_lcl i_17_36 rfl rfl
theorem q_17_37 : XX d 17 37 [v0, v1, v2, v3, v4, v5] st A Q ↔ XX d 17 38 [v0, v1, v2, v3, v4, v5] (.int (w 1) :: st) A Q := c_stk i_17_37 rfl
theorem q_17_38 : XX d 17 38 [v0, v1, v2, v3, v4, v5] (.int y :: .int x :: st) A Q ↔ XX d 17 39 [v0, v1, v2, v3, v4, v5] (.int (x - y) :: st) A Q := c_stk i_17_38 rfl
theorem q_17_39 : XX d 17 39 [v0, v1, v2, v3, v4, v5] (.int x :: .ref a :: st) (mk S I L R G) Q ↔ inA (S a) ok_i x ∧ XX d 17 40 [v0, v1, v2, v3, v4, v5] (.int (I a (ix x)) :: st) (mk S I L R G) Q := r_ia i_17_39
theorem q_17_40 : XX d 17 40 [some (.ref a), v1, v2, v3, v4, v5] st A Q ↔ XX d 17 41 [some (.ref a), v1, v2, v3, v4, v5] (.ref a :: st) A Q := c_lcl i_17_40 rfl rfl
theorem q_17_41 : XX d 17 41 [v0, v1, v2, v3, v4, v5] (.ref a :: st) (mk S I L R G) Q ↔ S a = some (.inr 2) ∧ XX d 17 44 [v0, v1, v2, v3, v4, v5] (.ref (a + 2) :: st) (mk S I L R G) Q := r_gf i_17_41 rfl (by decide) rfl
theorem q_17_44 : XX d 17 44 [v0, v1, some (.int x), v3, v4, v5] st A Q ↔ XX d 17 45 [v0, v1, some (.int x), v3, v4, v5] (.int x :: st) A Q := c_lcl i_17_44 rfl rfl
theorem q_17_45 : XX d 17 45 [v0, v1, v2, v3, v4, v5] (.int x :: .ref a :: st) (mk S I L R G) Q ↔ inA (S a) ok_i x ∧ XX d 17 46 [v0, v1, v2, v3, v4, v5] (.int (I a (ix x)) :: st) (mk S I L R G) Q := r_ia i_17_45
theorem q_17_46 : XX d 17 46 [v0, v1, v2, v3, v4, v5] (.int y :: .int x :: st) A Q ↔ XX d 17 47 [v0, v1, v2, v3, v4, v5] (.int (x - y) :: st) A Q := c_stk i_17_46 rfl
theorem q_17_47 : XX d 17 47 [v0, v1, v2, some (.int z), v4, v5] (.int x :: st) A Q ↔ XX d 17 49 [v0, v1, v2, some (.int z), some (.int x), v5] st A Q := c_lcl i_17_47 rfl rfl
theorem q_17_49 : XX d 17 49 [v0, v1, v2, v3, some (.int x), v5] st A Q ↔ XX d 17 51 [v0, v1, v2, v3, some (.int x), v5] (.int x :: st) A Q := c_lcl i_17_49 rfl rfl
theorem q_17_51 : XX d 17 51 [v0, v1, v2, v3, v4, v5] st A Q ↔ XX d 17 53 [v0, v1, v2, v3, v4, v5] (.int (w 100) :: st) A Q := c_stk i_17_51 rfl
theorem q_17_53 : XX d 17 53 [v0, v1, v2, v3, v4, v5] (.int y :: .int x :: st) A Q ↔ if y < x then XX d 17 56 [v0, v1, v2, v3, v4, v5] st A Q else XX d 17 59 [v0, v1, v2, v3, v4, v5] st A Q := b_le i_17_53 rfl rfl rfl
theorem q_17_56 : XX d 17 56 [v0, v1, v2, v3, v4, v5] st A Q ↔ XX d 17 198 [v0, v1, v2, v3, v4, v5] st A Q := c_go i_17_56 rfl rfl
theorem q_17_59 : XX d 17 59 [v0, some (.ref a), v2, v3, v4, v5] st A Q ↔ XX d 17 60 [v0, some (.ref a), v2, v3, v4, v5] (.ref a :: st) A Q := c_lcl i_17_59 rfl rfl
theorem q_17_60 : XX d 17 60 [some (.ref a), v1, v2, v3, v4, v5] st A Q ↔ XX d 17 61 [some (.ref a), v1, v2, v3, v4, v5] (.ref a :: st) A Q := c_lcl i_17_60 rfl rfl
theorem q_17_61 : XX d 17 61 [v0, v1, v2, v3, v4, v5] (.ref a :: st) (mk S I L R G) Q ↔ S a = some (.inr 2) ∧ XX d 17 64 [v0, v1, v2, v3, v4, v5] (.ref (a + 1) :: st) (mk S I L R G) Q := r_gf i_17_61 rfl (by decide) rfl
theorem q_17_64 : XX d 17 64 [some (.ref a), v1, v2, v3, v4, v5] st A Q ↔ XX d 17 65 [some (.ref a), v1, v2, v3, v4, v5] (.ref a :: st) A Q := c_lcl i_17_64 rfl rfl
theorem q_17_65 : XX d 17 65 [v0, v1, v2, v3, v4, v5] (.ref a :: st) (mk S I L R G) Q ↔ S a = some (.inr 2) ∧ XX d 17 68 [v0, v1, v2, v3, v4, v5] (.ref (a + 2) :: st) (mk S I L R G) Q := r_gf i_17_65 rfl (by decide) rfl
theorem q_17_68 : XX d 17 68 [v0, v1, some (.int x), v3, v4, v5] st A Q ↔ XX d 17 69 [v0, v1, some (.int x), v3, v4, v5] (.int x :: st) A Q := c_lcl i_17_68 rfl rfl
theorem q_17_69 : XX d 17 69 [v0, v1, v2, v3, v4, v5] (.int x :: .ref a :: st) (mk S I L R G) Q ↔ inA (S a) ok_i x ∧ XX d 17 70 [v0, v1, v2, v3, v4, v5] (.int (I a (ix x)) :: st) (mk S I L R G) Q := r_ia i_17_69
theorem q_17_70 : XX d 17 70 [v0, v1, v2, v3, some (.int x), v5] st A Q ↔ XX d 17 72 [v0, v1, v2, v3, some (.int x), v5] (.int x :: st) A Q := c_lcl i_17_70 rfl rfl
theorem q_17_72 : XX (d + 1) 17 72 [v0, v1, v2, v3, v4, v5] [.int x3, .int x2, .ref a1, .ref a0] (mk S I L R G) Q ↔ S a0 = some (.inr 5) ∧ XC d 48 [.ref a0, .ref a1, .int x2, .int x3] (mk S I L R G) (XK (d + 1) 17 72 [v0, v1, v2, v3, v4, v5] [] Q) := c_callV i_17_72 rfl rfl rfl rfl (Nat.le_of_ble_eq_true rfl) (Nat.le_of_ble_eq_true rfl) rfl
theorem q_17_75 : XX d 17 75 [v0, v1, v2, v3, some (.int z), v5] (.int x :: st) A Q ↔ XX d 17 77 [v0, v1, v2, v3, some (.int z), some (.int x)] st A Q := c_lcl i_17_75 rfl rfl
theorem q_17_77 : XX d 17 77 [v0, v1, v2, v3, v4, some (.int x)] st A Q ↔ XX d 17 79 [v0, v1, v2, v3, v4, some (.int x)] (.int x :: st) A Q := c_lcl i_17_77 rfl rfl
theorem q_17_79 : XX d 17 79 [v0, v1, v2, v3, v4, v5] (.int x :: st) A Q ↔ if x = w 0 then XX d 17 82 [v0, v1, v2, v3, v4, v5] st A Q else XX d 17 85 [v0, v1, v2, v3, v4, v5] st A Q := z_ne i_17_79 rfl rfl rfl
theorem q_17_82 : XX d 17 82 [v0, v1, v2, v3, v4, v5] st A Q ↔ XX d 17 192 [v0, v1, v2, v3, v4, v5] st A Q := c_go i_17_82 rfl rfl
theorem q_17_85 : XX d 17 85 [some (.ref a), v1, v2, v3, v4, v5] st A Q ↔ XX d 17 86 [some (.ref a), v1, v2, v3, v4, v5] (.ref a :: st) A Q := c_lcl i_17_85 rfl rfl
theorem q_17_86 : XX d 17 86 [v0, v1, v2, v3, v4, v5] (.ref a1 :: st) A Q ↔ XX d 17 87 [v0, v1, v2, v3, v4, v5] (.ref a1 :: .ref a1 :: st) A Q := c_stk i_17_86 rfl
theorem q_17_87 : XX d 17 87 [v0, v1, v2, v3, v4, v5] (.ref a :: st) (mk S I L R G) Q ↔ S a = some (.inr 2) ∧ XX d 17 90 [v0, v1, v2, v3, v4, v5] (.int (I a 8) :: st) (mk S I L R G) Q := r_gf i_17_87 rfl (by decide) rfl
theorem q_17_90 : XX d 17 90 [v0, v1, v2, v3, v4, v5] st A Q ↔ XX d 17 91 [v0, v1, v2, v3, v4, v5] (.int (w 1) :: st) A Q := c_stk i_17_90 rfl
theorem q_17_91 : XX d 17 91 [v0, v1, v2, v3, v4, v5] (.int y :: .int x :: st) A Q ↔ XX d 17 92 [v0, v1, v2, v3, v4, v5] (.int (x + y) :: st) A Q := c_stk i_17_91 rfl
theorem q_17_92 : XX d 17 92 [v0, v1, v2, v3, v4, v5] (.int x :: .ref a :: st) (mk S I L R G) Q ↔ S a = some (.inr 2) ∧ XX d 17 95 [v0, v1, v2, v3, v4, v5] st (mk S (wr I a (up (I a) 8 x)) L R G) Q := r_pf i_17_92 rfl (by decide) rfl rfl rfl
theorem q_17_95 : XX d 17 95 [some (.ref a), v1, v2, v3, v4, v5] st A Q ↔ XX d 17 96 [some (.ref a), v1, v2, v3, v4, v5] (.ref a :: st) A Q := c_lcl i_17_95 rfl rfl
theorem q_17_96 : XX d 17 96 [v0, v1, v2, v3, v4, v5] (.ref a :: st) (mk S I L R G) Q ↔ S a = some (.inr 2) ∧ XX d 17 99 [v0, v1, v2, v3, v4, v5] (.ref (a + 4) :: st) (mk S I L R G) Q := r_gf i_17_96 rfl (by decide) rfl
theorem q_17_99 : XX d 17 99 [v0, v1, some (.int x), v3, v4, v5] st A Q ↔ XX d 17 100 [v0, v1, some (.int x), v3, v4, v5] (.int x :: st) A Q := c_lcl i_17_99 rfl rfl
theorem q_17_100 : XX d 17 100 [v0, v1, v2, v3, v4, v5] st A Q ↔ XX d 17 103 [v0, v1, v2, v3, v4, v5] (.long (wl 1000000000) :: st) A Q := r_ld2 i_17_100 rfl
theorem q_17_103 : XX d 17 103 [some (.ref a), v1, v2, v3, v4, v5] st A Q ↔ XX d 17 104 [some (.ref a), v1, v2, v3, v4, v5] (.ref a :: st) A Q := c_lcl i_17_103 rfl rfl
theorem q_17_104 : XX d 17 104 [v0, v1, v2, v3, v4, v5] (.ref a :: st) (mk S I L R G) Q ↔ S a = some (.inr 2) ∧ XX d 17 107 [v0, v1, v2, v3, v4, v5] (.ref (a + 4) :: st) (mk S I L R G) Q := r_gf i_17_104 rfl (by decide) rfl
theorem q_17_107 : XX d 17 107 [v0, v1, some (.int x), v3, v4, v5] st A Q ↔ XX d 17 108 [v0, v1, some (.int x), v3, v4, v5] (.int x :: st) A Q := c_lcl i_17_107 rfl rfl
theorem q_17_108 : XX d 17 108 [v0, v1, v2, v3, v4, v5] (.int x :: .ref a :: st) (mk S I L R G) Q ↔ inA (S a) ok_l x ∧ XX d 17 109 [v0, v1, v2, v3, v4, v5] (.long (L a (ix x)) :: st) (mk S I L R G) Q := r_la i_17_108
theorem q_17_109 : XX d 17 109 [v0, v1, v2, v3, v4, some (.int x)] st A Q ↔ XX d 17 111 [v0, v1, v2, v3, v4, some (.int x)] (.int x :: st) A Q := c_lcl i_17_109 rfl rfl
theorem q_17_111 : XX d 17 111 [v0, v1, v2, v3, v4, v5] (.int x :: st) A Q ↔ XX d 17 112 [v0, v1, v2, v3, v4, v5] (.long x.toInt64 :: st) A Q := c_stk i_17_111 rfl
theorem q_17_112 : XX d 17 112 [some (.ref a), v1, v2, v3, v4, v5] st A Q ↔ XX d 17 113 [some (.ref a), v1, v2, v3, v4, v5] (.ref a :: st) A Q := c_lcl i_17_112 rfl rfl
theorem q_17_113 : XX d 17 113 [v0, v1, v2, v3, v4, v5] (.ref a :: st) (mk S I L R G) Q ↔ S a = some (.inr 2) ∧ XX d 17 116 [v0, v1, v2, v3, v4, v5] (.ref (a + 4) :: st) (mk S I L R G) Q := r_gf i_17_113 rfl (by decide) rfl
theorem q_17_116 : XX d 17 116 [v0, v1, v2, some (.int x), v4, v5] st A Q ↔ XX d 17 117 [v0, v1, v2, some (.int x), v4, v5] (.int x :: st) A Q := c_lcl i_17_116 rfl rfl
theorem q_17_117 : XX d 17 117 [v0, v1, v2, v3, v4, v5] (.int x :: .ref a :: st) (mk S I L R G) Q ↔ inA (S a) ok_l x ∧ XX d 17 118 [v0, v1, v2, v3, v4, v5] (.long (L a (ix x)) :: st) (mk S I L R G) Q := r_la i_17_117
theorem q_17_118 : XX d 17 118 [v0, v1, v2, v3, v4, v5] (.long ly :: .long lx :: st) A Q ↔ XX d 17 119 [v0, v1, v2, v3, v4, v5] (.long (lx * ly) :: st) A Q := c_stk i_17_118 rfl
theorem q_17_119 : XX d 17 119 [v0, v1, v2, v3, v4, v5] (.long ly :: .long lx :: st) A Q ↔ XX d 17 120 [v0, v1, v2, v3, v4, v5] (.long (lx + ly) :: st) A Q := c_stk i_17_119 rfl
theorem q_17_120 : XX d 17 120 [v0, v1, v2, v3, v4, v5] [.long ly, .long lx, .int x0, .ref a1] A Q ↔ XX d 17 123 [v0, v1, v2, v3, v4, v5] [.long (if ly < lx then ly else lx), .int x0, .ref a1] A Q := r_mil i_17_120 rfl rfl (Nat.le_of_ble_eq_true rfl)
theorem q_17_123 : XX d 17 123 [v0, v1, v2, v3, v4, v5] (.long ly :: .int x :: .ref a :: st) (mk S I L R G) Q ↔ inA (S a) ok_l x ∧ XX d 17 124 [v0, v1, v2, v3, v4, v5] st (mk S I (wr L a (up (L a) (ix x) ly)) R G) Q := r_las i_17_123
theorem q_17_124 : XX d 17 124 [some (.ref a), v1, v2, v3, v4, v5] st A Q ↔ XX d 17 125 [some (.ref a), v1, v2, v3, v4, v5] (.ref a :: st) A Q := c_lcl i_17_124 rfl rfl
theorem q_17_125 : XX d 17 125 [v0, v1, v2, v3, v4, v5] (.ref a :: st) (mk S I L R G) Q ↔ S a = some (.inr 2) ∧ XX d 17 128 [v0, v1, v2, v3, v4, v5] (.ref (a + 5) :: st) (mk S I L R G) Q := r_gf i_17_125 rfl (by decide) rfl
theorem q_17_128 : XX d 17 128 [v0, v1, v2, some (.int x), v4, v5] st A Q ↔ XX d 17 129 [v0, v1, v2, some (.int x), v4, v5] (.int x :: st) A Q := c_lcl i_17_128 rfl rfl
theorem q_17_129 : XX d 17 129 [v0, v1, v2, v3, v4, v5] (.int x :: .ref a :: st) (mk S I L R G) Q ↔ inA (S a) ok_i x ∧ XX d 17 130 [v0, v1, v2, v3, v4, v5] (.int (I a (ix x)) :: st) (mk S I L R G) Q := r_ia i_17_129
theorem q_17_130 : XX d 17 130 [v0, v1, v2, v3, v4, v5] st A Q ↔ XX d 17 131 [v0, v1, v2, v3, v4, v5] (.int (w (-1)) :: st) A Q := c_stk i_17_130 rfl
theorem q_17_131 : XX d 17 131 [v0, v1, v2, v3, v4, v5] (.int y :: .int x :: st) A Q ↔ if x = y then XX d 17 192 [v0, v1, v2, v3, v4, v5] st A Q else XX d 17 134 [v0, v1, v2, v3, v4, v5] st A Q := b_eq i_17_131 rfl rfl rfl
theorem q_17_134 : XX d 17 134 [some (.ref a), v1, v2, v3, v4, v5] st A Q ↔ XX d 17 135 [some (.ref a), v1, v2, v3, v4, v5] (.ref a :: st) A Q := c_lcl i_17_134 rfl rfl
theorem q_17_135 : XX d 17 135 [v0, v1, v2, v3, v4, v5] (.ref a :: st) (mk S I L R G) Q ↔ S a = some (.inr 2) ∧ XX d 17 138 [v0, v1, v2, v3, v4, v5] (.ref (a + 5) :: st) (mk S I L R G) Q := r_gf i_17_135 rfl (by decide) rfl
theorem q_17_138 : XX d 17 138 [v0, v1, some (.int x), v3, v4, v5] st A Q ↔ XX d 17 139 [v0, v1, some (.int x), v3, v4, v5] (.int x :: st) A Q := c_lcl i_17_138 rfl rfl
theorem q_17_139 : XX d 17 139 [v0, v1, v2, v3, v4, v5] (.int x :: .ref a :: st) (mk S I L R G) Q ↔ inA (S a) ok_i x ∧ XX d 17 140 [v0, v1, v2, v3, v4, v5] (.int (I a (ix x)) :: st) (mk S I L R G) Q := r_ia i_17_139
theorem q_17_140 : XX d 17 140 [v0, v1, v2, v3, v4, v5] st A Q ↔ XX d 17 141 [v0, v1, v2, v3, v4, v5] (.int (w (-1)) :: st) A Q := c_stk i_17_140 rfl
theorem q_17_141 : XX d 17 141 [v0, v1, v2, v3, v4, v5] (.int y :: .int x :: st) A Q ↔ if x = y then XX d 17 161 [v0, v1, v2, v3, v4, v5] st A Q else XX d 17 144 [v0, v1, v2, v3, v4, v5] st A Q := b_eq i_17_141 rfl rfl rfl
theorem q_17_144 : XX d 17 144 [some (.ref a), v1, v2, v3, v4, v5] st A Q ↔ XX d 17 145 [some (.ref a), v1, v2, v3, v4, v5] (.ref a :: st) A Q := c_lcl i_17_144 rfl rfl
theorem q_17_145 : XX d 17 145 [v0, v1, v2, v3, v4, v5] (.ref a :: st) (mk S I L R G) Q ↔ S a = some (.inr 2) ∧ XX d 17 148 [v0, v1, v2, v3, v4, v5] (.ref (a + 5) :: st) (mk S I L R G) Q := r_gf i_17_145 rfl (by decide) rfl
theorem q_17_148 : XX d 17 148 [v0, v1, v2, some (.int x), v4, v5] st A Q ↔ XX d 17 149 [v0, v1, v2, some (.int x), v4, v5] (.int x :: st) A Q := c_lcl i_17_148 rfl rfl
theorem q_17_149 : XX d 17 149 [v0, v1, v2, v3, v4, v5] (.int x :: .ref a :: st) (mk S I L R G) Q ↔ inA (S a) ok_i x ∧ XX d 17 150 [v0, v1, v2, v3, v4, v5] (.int (I a (ix x)) :: st) (mk S I L R G) Q := r_ia i_17_149
theorem q_17_150 : XX d 17 150 [v0, v1, v2, v3, v4, v5] st A Q ↔ XX d 17 151 [v0, v1, v2, v3, v4, v5] (.int (w 1) :: st) A Q := c_stk i_17_150 rfl
theorem q_17_151 : XX d 17 151 [v0, v1, v2, v3, v4, v5] (.int y :: .int x :: st) A Q ↔ XX d 17 152 [v0, v1, v2, v3, v4, v5] (.int (x + y) :: st) A Q := c_stk i_17_151 rfl
theorem q_17_152 : XX d 17 152 [some (.ref a), v1, v2, v3, v4, v5] st A Q ↔ XX d 17 153 [some (.ref a), v1, v2, v3, v4, v5] (.ref a :: st) A Q := c_lcl i_17_152 rfl rfl
theorem q_17_153 : XX d 17 153 [v0, v1, v2, v3, v4, v5] (.ref a :: st) (mk S I L R G) Q ↔ S a = some (.inr 2) ∧ XX d 17 156 [v0, v1, v2, v3, v4, v5] (.ref (a + 5) :: st) (mk S I L R G) Q := r_gf i_17_153 rfl (by decide) rfl
theorem q_17_156 : XX d 17 156 [v0, v1, some (.int x), v3, v4, v5] st A Q ↔ XX d 17 157 [v0, v1, some (.int x), v3, v4, v5] (.int x :: st) A Q := c_lcl i_17_156 rfl rfl
theorem q_17_157 : XX d 17 157 [v0, v1, v2, v3, v4, v5] (.int x :: .ref a :: st) (mk S I L R G) Q ↔ inA (S a) ok_i x ∧ XX d 17 158 [v0, v1, v2, v3, v4, v5] (.int (I a (ix x)) :: st) (mk S I L R G) Q := r_ia i_17_157
theorem q_17_158 : XX d 17 158 [v0, v1, v2, v3, v4, v5] (.int y :: .int x :: st) A Q ↔ if y < x then XX d 17 192 [v0, v1, v2, v3, v4, v5] st A Q else XX d 17 161 [v0, v1, v2, v3, v4, v5] st A Q := b_gt i_17_158 rfl rfl rfl
theorem q_17_161 : XX d 17 161 [some (.ref a), v1, v2, v3, v4, v5] st A Q ↔ XX d 17 162 [some (.ref a), v1, v2, v3, v4, v5] (.ref a :: st) A Q := c_lcl i_17_161 rfl rfl
theorem q_17_162 : XX d 17 162 [v0, v1, v2, v3, v4, v5] (.ref a :: st) (mk S I L R G) Q ↔ S a = some (.inr 2) ∧ XX d 17 165 [v0, v1, v2, v3, v4, v5] (.ref (a + 5) :: st) (mk S I L R G) Q := r_gf i_17_162 rfl (by decide) rfl
theorem q_17_165 : XX d 17 165 [v0, v1, some (.int x), v3, v4, v5] st A Q ↔ XX d 17 166 [v0, v1, some (.int x), v3, v4, v5] (.int x :: st) A Q := c_lcl i_17_165 rfl rfl
theorem q_17_166 : XX d 17 166 [some (.ref a), v1, v2, v3, v4, v5] st A Q ↔ XX d 17 167 [some (.ref a), v1, v2, v3, v4, v5] (.ref a :: st) A Q := c_lcl i_17_166 rfl rfl
theorem q_17_167 : XX d 17 167 [v0, v1, v2, v3, v4, v5] (.ref a :: st) (mk S I L R G) Q ↔ S a = some (.inr 2) ∧ XX d 17 170 [v0, v1, v2, v3, v4, v5] (.ref (a + 5) :: st) (mk S I L R G) Q := r_gf i_17_167 rfl (by decide) rfl
theorem q_17_170 : XX d 17 170 [v0, v1, v2, some (.int x), v4, v5] st A Q ↔ XX d 17 171 [v0, v1, v2, some (.int x), v4, v5] (.int x :: st) A Q := c_lcl i_17_170 rfl rfl
theorem q_17_171 : XX d 17 171 [v0, v1, v2, v3, v4, v5] (.int x :: .ref a :: st) (mk S I L R G) Q ↔ inA (S a) ok_i x ∧ XX d 17 172 [v0, v1, v2, v3, v4, v5] (.int (I a (ix x)) :: st) (mk S I L R G) Q := r_ia i_17_171
theorem q_17_172 : XX d 17 172 [v0, v1, v2, v3, v4, v5] st A Q ↔ XX d 17 173 [v0, v1, v2, v3, v4, v5] (.int (w 1) :: st) A Q := c_stk i_17_172 rfl
theorem q_17_173 : XX d 17 173 [v0, v1, v2, v3, v4, v5] (.int y :: .int x :: st) A Q ↔ XX d 17 174 [v0, v1, v2, v3, v4, v5] (.int (x + y) :: st) A Q := c_stk i_17_173 rfl
theorem q_17_174 : XX d 17 174 [v0, v1, v2, v3, v4, v5] (.int y :: .int x :: .ref a :: st) (mk S I L R G) Q ↔ inA (S a) ok_0 x ∧ XX d 17 175 [v0, v1, v2, v3, v4, v5] st (mk S (wr I a (up (I a) (ix x) y)) L R G) Q := r_ias i_17_174
theorem q_17_175 : XX d 17 175 [some (.ref a), v1, v2, v3, v4, v5] st A Q ↔ XX d 17 176 [some (.ref a), v1, v2, v3, v4, v5] (.ref a :: st) A Q := c_lcl i_17_175 rfl rfl
theorem q_17_176 : XX d 17 176 [v0, v1, v2, v3, v4, v5] (.ref a :: st) (mk S I L R G) Q ↔ S a = some (.inr 2) ∧ XX d 17 179 [v0, v1, v2, v3, v4, v5] (.ref (a + 6) :: st) (mk S I L R G) Q := r_gf i_17_176 rfl (by decide) rfl
theorem q_17_179 : XX d 17 179 [v0, v1, some (.int x), v3, v4, v5] st A Q ↔ XX d 17 180 [v0, v1, some (.int x), v3, v4, v5] (.int x :: st) A Q := c_lcl i_17_179 rfl rfl
theorem q_17_180 : XX d 17 180 [v0, v1, v2, some (.int x), v4, v5] st A Q ↔ XX d 17 181 [v0, v1, v2, some (.int x), v4, v5] (.int x :: st) A Q := c_lcl i_17_180 rfl rfl
theorem q_17_181 : XX d 17 181 [v0, v1, v2, v3, v4, v5] (.int y :: .int x :: .ref a :: st) (mk S I L R G) Q ↔ inA (S a) ok_0 x ∧ XX d 17 182 [v0, v1, v2, v3, v4, v5] st (mk S (wr I a (up (I a) (ix x) y)) L R G) Q := r_ias i_17_181
theorem q_17_182 : XX d 17 182 [some (.ref a), v1, v2, v3, v4, v5] st A Q ↔ XX d 17 183 [some (.ref a), v1, v2, v3, v4, v5] (.ref a :: st) A Q := c_lcl i_17_182 rfl rfl
theorem q_17_183 : XX d 17 183 [v0, v1, v2, v3, v4, v5] (.ref a :: st) (mk S I L R G) Q ↔ S a = some (.inr 2) ∧ XX d 17 186 [v0, v1, v2, v3, v4, v5] (.ref (a + 7) :: st) (mk S I L R G) Q := r_gf i_17_183 rfl (by decide) rfl
theorem q_17_186 : XX d 17 186 [v0, v1, some (.int x), v3, v4, v5] st A Q ↔ XX d 17 187 [v0, v1, some (.int x), v3, v4, v5] (.int x :: st) A Q := c_lcl i_17_186 rfl rfl
theorem q_17_187 : XX d 17 187 [v0, some (.ref a), v2, v3, v4, v5] st A Q ↔ XX d 17 188 [v0, some (.ref a), v2, v3, v4, v5] (.ref a :: st) A Q := c_lcl i_17_187 rfl rfl
theorem q_17_188 : XX (d + 1) 17 188 [v0, v1, v2, v3, v4, v5] [.ref a0, .int x1, .ref a2] (mk S I L R G) Q ↔ S a0 = some (.inr 5) ∧ XC d 49 [.ref a0] (mk S I L R G) (XK (d + 1) 17 188 [v0, v1, v2, v3, v4, v5] [.int x1, .ref a2] Q) := c_callV i_17_188 rfl rfl rfl rfl (Nat.le_of_ble_eq_true rfl) (Nat.le_of_ble_eq_true rfl) rfl
theorem q_17_191 : XX d 17 191 [v0, v1, v2, v3, v4, v5] (.int y :: .int x :: .ref a :: st) (mk S I L R G) Q ↔ inA (S a) ok_0 x ∧ XX d 17 192 [v0, v1, v2, v3, v4, v5] st (mk S (wr I a (up (I a) (ix x) y)) L R G) Q := r_ias i_17_191
theorem q_17_192 : XX d 17 192 [v0, v1, some (.int z), some (.int x), v4, v5] st A Q ↔ XX d 17 195 [v0, v1, some (.int z), some (.int (x + w 1)), v4, v5] st A Q := c_lcl i_17_192 rfl rfl
theorem q_17_195 : XX d 17 195 [v0, v1, v2, v3, v4, v5] st A Q ↔ XX d 17 18 [v0, v1, v2, v3, v4, v5] st A Q := c_go i_17_195 rfl rfl
theorem q_17_198 : XX d 17 198 [v0, v1, v2, v3, v4, v5] [] A Q ↔ Q (.inl none) A := e_retN i_17_198 rfl
theorem q_17_e : XC d 17 [.ref a0, .ref a1, .int x2] A Q ↔ XX d 17 0 [some (.ref a0), some (.ref a1), some (.int x2), none, none, none] [] A Q := Iff.rfl
theorem i_18_0 : t_ins 18 0 = some (.aload_n 0) := by decide +kernel
theorem i_18_1 : t_ins 18 1 = some (.getfield 26) := by decide +kernel
theorem i_18_4 : t_ins 18 4 = some (.iconst 0) := by decide +kernel
theorem i_18_5 : t_ins 18 5 = some (.laload) := by decide +kernel
theorem i_18_6 : t_ins 18 6 = some (.l2i) := by decide +kernel
theorem i_18_7 : t_ins 18 7 = some (.ireturn) := by decide +kernel
theorem q_18_0 : XX d 18 0 [some (.ref a)] st A Q ↔ XX d 18 1 [some (.ref a)] (.ref a :: st) A Q := c_lcl i_18_0 rfl rfl
theorem q_18_1 : XX d 18 1 [v0] (.ref a :: st) (mk S I L R G) Q ↔ S a = some (.inr 2) ∧ XX d 18 4 [v0] (.ref (a + 4) :: st) (mk S I L R G) Q := r_gf i_18_1 rfl (by decide) rfl
theorem q_18_4 : XX d 18 4 [v0] st A Q ↔ XX d 18 5 [v0] (.int (w 0) :: st) A Q := c_stk i_18_4 rfl
theorem q_18_5 : XX d 18 5 [v0] (.int x :: .ref a :: st) (mk S I L R G) Q ↔ inA (S a) ok_l x ∧ XX d 18 6 [v0] (.long (L a (ix x)) :: st) (mk S I L R G) Q := r_la i_18_5
theorem q_18_6 : XX d 18 6 [v0] (.long lx :: st) A Q ↔ XX d 18 7 [v0] (.int lx.toInt32 :: st) A Q := c_stk i_18_6 rfl
theorem q_18_7 : XX d 18 7 [v0] [.int x] A Q ↔ Q (.inl (some (.int x))) A := e_retI i_18_7 rfl
theorem q_18_e : XC d 18 [.ref a0] A Q ↔ XX d 18 0 [some (.ref a0)] [] A Q := Iff.rfl
theorem i_19_0 : t_ins 19 0 = some (.aload_n 0) := by decide +kernel
theorem i_19_1 : t_ins 19 1 = some (.getfield 30) := by decide +kernel
theorem i_19_4 : t_ins 19 4 = some (.iconst 0) := by decide +kernel
theorem i_19_5 : t_ins 19 5 = some (.iaload) := by decide +kernel
theorem i_19_6 : t_ins 19 6 = some (.ireturn) := by decide +kernel
theorem q_19_0 : XX d 19 0 [some (.ref a)] st A Q ↔ XX d 19 1 [some (.ref a)] (.ref a :: st) A Q := c_lcl i_19_0 rfl rfl
theorem q_19_1 : XX d 19 1 [v0] (.ref a :: st) (mk S I L R G) Q ↔ S a = some (.inr 2) ∧ XX d 19 4 [v0] (.ref (a + 5) :: st) (mk S I L R G) Q := r_gf i_19_1 rfl (by decide) rfl
theorem q_19_4 : XX d 19 4 [v0] st A Q ↔ XX d 19 5 [v0] (.int (w 0) :: st) A Q := c_stk i_19_4 rfl
theorem q_19_5 : XX d 19 5 [v0] (.int x :: .ref a :: st) (mk S I L R G) Q ↔ inA (S a) ok_i x ∧ XX d 19 6 [v0] (.int (I a (ix x)) :: st) (mk S I L R G) Q := r_ia i_19_5
theorem q_19_6 : XX d 19 6 [v0] [.int x] A Q ↔ Q (.inl (some (.int x))) A := e_retI i_19_6 rfl
theorem q_19_e : XC d 19 [.ref a0] A Q ↔ XX d 19 0 [some (.ref a0)] [] A Q := Iff.rfl
theorem i_20_0 : t_ins 20 0 = some (.aload_n 0) := by decide +kernel
theorem i_20_1 : t_ins 20 1 = some (.getfield 30) := by decide +kernel
theorem i_20_4 : t_ins 20 4 = some (.iconst 0) := by decide +kernel
theorem i_20_5 : t_ins 20 5 = some (.iaload) := by decide +kernel
theorem i_20_6 : t_ins 20 6 = some (.iconst (-1)) := by decide +kernel
theorem i_20_7 : t_ins 20 7 = some (.if_icmp .ne 5) := by decide +kernel
theorem i_20_10 : t_ins 20 10 = some (.iconst (-1)) := by decide +kernel
theorem i_20_11 : t_ins 20 11 = some (.ireturn) := by decide +kernel
theorem i_20_12 : t_ins 20 12 = some (.lconst 0) := by decide +kernel
theorem i_20_13 : t_ins 20 13 = some (.lstore_n 1) := by decide +kernel
theorem i_20_14 : t_ins 20 14 = some (.iconst 0) := by decide +kernel
theorem i_20_15 : t_ins 20 15 = some (.istore_n 3) := by decide +kernel
theorem i_20_16 : t_ins 20 16 = some (.iconst 0) := by decide +kernel
theorem i_20_17 : t_ins 20 17 = some (.istore 4) := by decide +kernel
theorem i_20_19 : t_ins 20 19 = some (.iload 4) := by decide +kernel
theorem i_20_21 : t_ins 20 21 = some (.aload_n 0) := by decide +kernel
theorem i_20_22 : t_ins 20 22 = some (.getfield 30) := by decide +kernel
theorem i_20_25 : t_ins 20 25 = some (.iconst 0) := by decide +kernel
theorem i_20_26 : t_ins 20 26 = some (.iaload) := by decide +kernel
theorem i_20_27 : t_ins 20 27 = some (.if_icmp .ge 44) := by decide +kernel
theorem i_20_30 : t_ins 20 30 = some (.iload_n 3) := by decide +kernel
theorem i_20_31 : t_ins 20 31 = some (.ifCond .lt 40) := by decide +kernel
theorem i_20_34 : t_ins 20 34 = some (.iload_n 3) := by decide +kernel
theorem i_20_35 : t_ins 20 35 = some (.aload_n 0) := by decide +kernel
theorem i_20_36 : t_ins 20 36 = some (.getfield 22) := by decide +kernel
theorem i_20_39 : t_ins 20 39 = some (.if_icmp .ge 32) := by decide +kernel
theorem i_20_42 : t_ins 20 42 = some (.ldc2_w 67) := by decide +kernel
theorem i_20_45 : t_ins 20 45 = some (.lload_n 1) := by decide +kernel
theorem i_20_46 : t_ins 20 46 = some (.aload_n 0) := by decide +kernel
theorem i_20_47 : t_ins 20 47 = some (.getfield 36) := by decide +kernel
theorem i_20_50 : t_ins 20 50 = some (.iload_n 3) := by decide +kernel
theorem i_20_51 : t_ins 20 51 = some (.iaload) := by decide +kernel
theorem i_20_52 : t_ins 20 52 = some (.i2l) := by decide +kernel
theorem i_20_53 : t_ins 20 53 = some (.ladd) := by decide +kernel
theorem i_20_54 : t_ins 20 54 = some (.invokestatic 69) := by decide +kernel
theorem i_20_57 : t_ins 20 57 = some (.lstore_n 1) := by decide +kernel
theorem i_20_58 : t_ins 20 58 = some (.aload_n 0) := by decide +kernel
theorem i_20_59 : t_ins 20 59 = some (.getfield 33) := by decide +kernel
theorem i_20_62 : t_ins 20 62 = some (.iload_n 3) := by decide +kernel
theorem i_20_63 : t_ins 20 63 = some (.iaload) := by decide +kernel
theorem i_20_64 : t_ins 20 64 = some (.istore_n 3) := by decide +kernel
theorem i_20_65 : t_ins 20 65 = some (.iinc 4 1) := by decide +kernel
theorem i_20_68 : t_ins 20 68 = some (.goto (-49)) := by decide +kernel
theorem i_20_71 : t_ins 20 71 = some (.lload_n 1) := by decide +kernel
theorem i_20_72 : t_ins 20 72 = some (.l2i) := by decide +kernel
theorem i_20_73 : t_ins 20 73 = some (.ireturn) := by decide +kernel
theorem q_20_0 : XX d 20 0 [some (.ref a), v1, v2, v3, v4] st A Q ↔ XX d 20 1 [some (.ref a), v1, v2, v3, v4] (.ref a :: st) A Q := c_lcl i_20_0 rfl rfl
theorem q_20_1 : XX d 20 1 [v0, v1, v2, v3, v4] (.ref a :: st) (mk S I L R G) Q ↔ S a = some (.inr 2) ∧ XX d 20 4 [v0, v1, v2, v3, v4] (.ref (a + 5) :: st) (mk S I L R G) Q := r_gf i_20_1 rfl (by decide) rfl
theorem q_20_4 : XX d 20 4 [v0, v1, v2, v3, v4] st A Q ↔ XX d 20 5 [v0, v1, v2, v3, v4] (.int (w 0) :: st) A Q := c_stk i_20_4 rfl
theorem q_20_5 : XX d 20 5 [v0, v1, v2, v3, v4] (.int x :: .ref a :: st) (mk S I L R G) Q ↔ inA (S a) ok_i x ∧ XX d 20 6 [v0, v1, v2, v3, v4] (.int (I a (ix x)) :: st) (mk S I L R G) Q := r_ia i_20_5
theorem q_20_6 : XX d 20 6 [v0, v1, v2, v3, v4] st A Q ↔ XX d 20 7 [v0, v1, v2, v3, v4] (.int (w (-1)) :: st) A Q := c_stk i_20_6 rfl
theorem q_20_7 : XX d 20 7 [v0, v1, v2, v3, v4] (.int y :: .int x :: st) A Q ↔ if x = y then XX d 20 10 [v0, v1, v2, v3, v4] st A Q else XX d 20 12 [v0, v1, v2, v3, v4] st A Q := b_ne i_20_7 rfl rfl rfl
theorem q_20_10 : XX d 20 10 [v0, v1, v2, v3, v4] st A Q ↔ XX d 20 11 [v0, v1, v2, v3, v4] (.int (w (-1)) :: st) A Q := c_stk i_20_10 rfl
theorem q_20_11 : XX d 20 11 [v0, v1, v2, v3, v4] [.int x] A Q ↔ Q (.inl (some (.int x))) A := e_retI i_20_11 rfl
theorem q_20_12 : XX d 20 12 [v0, v1, v2, v3, v4] st A Q ↔ XX d 20 13 [v0, v1, v2, v3, v4] (.long (wl 0) :: st) A Q := c_stk i_20_12 rfl
theorem q_20_13 : XX d 20 13 [some (.ref b), v1, v2, v3, v4] (.long lx :: st) A Q ↔ XX d 20 14 [some (.ref b), some (.long lx), none, v3, v4] st A Q := c_lcl i_20_13 rfl rfl
theorem q_20_14 : XX d 20 14 [v0, v1, v2, v3, v4] st A Q ↔ XX d 20 15 [v0, v1, v2, v3, v4] (.int (w 0) :: st) A Q := c_stk i_20_14 rfl
theorem q_20_15 : XX d 20 15 [v0, v1, none, v3, v4] (.int x :: st) A Q ↔ XX d 20 16 [v0, v1, none, some (.int x), v4] st A Q := c_lcl i_20_15 rfl rfl
theorem q_20_16 : XX d 20 16 [v0, v1, v2, v3, v4] st A Q ↔ XX d 20 17 [v0, v1, v2, v3, v4] (.int (w 0) :: st) A Q := c_stk i_20_16 rfl
theorem q_20_17 : XX d 20 17 [v0, v1, v2, some (.int z), v4] (.int x :: st) A Q ↔ XX d 20 19 [v0, v1, v2, some (.int z), some (.int x)] st A Q := c_lcl i_20_17 rfl rfl
theorem q_20_19 : XX d 20 19 [v0, v1, v2, v3, some (.int x)] st A Q ↔ XX d 20 21 [v0, v1, v2, v3, some (.int x)] (.int x :: st) A Q := c_lcl i_20_19 rfl rfl
theorem q_20_21 : XX d 20 21 [some (.ref a), v1, v2, v3, v4] st A Q ↔ XX d 20 22 [some (.ref a), v1, v2, v3, v4] (.ref a :: st) A Q := c_lcl i_20_21 rfl rfl
theorem q_20_22 : XX d 20 22 [v0, v1, v2, v3, v4] (.ref a :: st) (mk S I L R G) Q ↔ S a = some (.inr 2) ∧ XX d 20 25 [v0, v1, v2, v3, v4] (.ref (a + 5) :: st) (mk S I L R G) Q := r_gf i_20_22 rfl (by decide) rfl
theorem q_20_25 : XX d 20 25 [v0, v1, v2, v3, v4] st A Q ↔ XX d 20 26 [v0, v1, v2, v3, v4] (.int (w 0) :: st) A Q := c_stk i_20_25 rfl
theorem q_20_26 : XX d 20 26 [v0, v1, v2, v3, v4] (.int x :: .ref a :: st) (mk S I L R G) Q ↔ inA (S a) ok_i x ∧ XX d 20 27 [v0, v1, v2, v3, v4] (.int (I a (ix x)) :: st) (mk S I L R G) Q := r_ia i_20_26
theorem q_20_27 : XX d 20 27 [v0, v1, v2, v3, v4] (.int y :: .int x :: st) A Q ↔ if x < y then XX d 20 30 [v0, v1, v2, v3, v4] st A Q else XX d 20 71 [v0, v1, v2, v3, v4] st A Q := b_ge i_20_27 rfl rfl rfl
theorem q_20_30 : XX d 20 30 [v0, v1, v2, some (.int x), v4] st A Q ↔ XX d 20 31 [v0, v1, v2, some (.int x), v4] (.int x :: st) A Q := c_lcl i_20_30 rfl rfl
theorem q_20_31 : XX d 20 31 [v0, v1, v2, v3, v4] (.int x :: st) A Q ↔ if x < w 0 then XX d 20 71 [v0, v1, v2, v3, v4] st A Q else XX d 20 34 [v0, v1, v2, v3, v4] st A Q := z_lt i_20_31 rfl rfl rfl
theorem q_20_34 : XX d 20 34 [v0, v1, v2, some (.int x), v4] st A Q ↔ XX d 20 35 [v0, v1, v2, some (.int x), v4] (.int x :: st) A Q := c_lcl i_20_34 rfl rfl
theorem q_20_35 : XX d 20 35 [some (.ref a), v1, v2, v3, v4] st A Q ↔ XX d 20 36 [some (.ref a), v1, v2, v3, v4] (.ref a :: st) A Q := c_lcl i_20_35 rfl rfl
theorem q_20_36 : XX d 20 36 [v0, v1, v2, v3, v4] (.ref a :: st) (mk S I L R G) Q ↔ S a = some (.inr 2) ∧ XX d 20 39 [v0, v1, v2, v3, v4] (.int (I a 3) :: st) (mk S I L R G) Q := r_gf i_20_36 rfl (by decide) rfl
theorem q_20_39 : XX d 20 39 [v0, v1, v2, v3, v4] (.int y :: .int x :: st) A Q ↔ if x < y then XX d 20 42 [v0, v1, v2, v3, v4] st A Q else XX d 20 71 [v0, v1, v2, v3, v4] st A Q := b_ge i_20_39 rfl rfl rfl
theorem q_20_42 : XX d 20 42 [v0, v1, v2, v3, v4] st A Q ↔ XX d 20 45 [v0, v1, v2, v3, v4] (.long (wl 1000000000) :: st) A Q := r_ld2 i_20_42 rfl
theorem q_20_45 : XX d 20 45 [v0, some (.long lx), v2, v3, v4] st A Q ↔ XX d 20 46 [v0, some (.long lx), v2, v3, v4] (.long lx :: st) A Q := c_lcl i_20_45 rfl rfl
theorem q_20_46 : XX d 20 46 [some (.ref a), v1, v2, v3, v4] st A Q ↔ XX d 20 47 [some (.ref a), v1, v2, v3, v4] (.ref a :: st) A Q := c_lcl i_20_46 rfl rfl
theorem q_20_47 : XX d 20 47 [v0, v1, v2, v3, v4] (.ref a :: st) (mk S I L R G) Q ↔ S a = some (.inr 2) ∧ XX d 20 50 [v0, v1, v2, v3, v4] (.ref (a + 7) :: st) (mk S I L R G) Q := r_gf i_20_47 rfl (by decide) rfl
theorem q_20_50 : XX d 20 50 [v0, v1, v2, some (.int x), v4] st A Q ↔ XX d 20 51 [v0, v1, v2, some (.int x), v4] (.int x :: st) A Q := c_lcl i_20_50 rfl rfl
theorem q_20_51 : XX d 20 51 [v0, v1, v2, v3, v4] (.int x :: .ref a :: st) (mk S I L R G) Q ↔ inA (S a) ok_i x ∧ XX d 20 52 [v0, v1, v2, v3, v4] (.int (I a (ix x)) :: st) (mk S I L R G) Q := r_ia i_20_51
theorem q_20_52 : XX d 20 52 [v0, v1, v2, v3, v4] (.int x :: st) A Q ↔ XX d 20 53 [v0, v1, v2, v3, v4] (.long x.toInt64 :: st) A Q := c_stk i_20_52 rfl
theorem q_20_53 : XX d 20 53 [v0, v1, v2, v3, v4] (.long ly :: .long lx :: st) A Q ↔ XX d 20 54 [v0, v1, v2, v3, v4] (.long (lx + ly) :: st) A Q := c_stk i_20_53 rfl
theorem q_20_54 : XX d 20 54 [v0, v1, v2, v3, v4] [.long ly, .long lx] A Q ↔ XX d 20 57 [v0, v1, v2, v3, v4] [.long (if ly < lx then ly else lx)] A Q := r_mil i_20_54 rfl rfl (Nat.le_of_ble_eq_true rfl)
theorem q_20_57 : XX d 20 57 [some (.ref b), v1, v2, v3, v4] (.long lx :: st) A Q ↔ XX d 20 58 [some (.ref b), some (.long lx), none, v3, v4] st A Q := c_lcl i_20_57 rfl rfl
theorem q_20_58 : XX d 20 58 [some (.ref a), v1, v2, v3, v4] st A Q ↔ XX d 20 59 [some (.ref a), v1, v2, v3, v4] (.ref a :: st) A Q := c_lcl i_20_58 rfl rfl
theorem q_20_59 : XX d 20 59 [v0, v1, v2, v3, v4] (.ref a :: st) (mk S I L R G) Q ↔ S a = some (.inr 2) ∧ XX d 20 62 [v0, v1, v2, v3, v4] (.ref (a + 6) :: st) (mk S I L R G) Q := r_gf i_20_59 rfl (by decide) rfl
theorem q_20_62 : XX d 20 62 [v0, v1, v2, some (.int x), v4] st A Q ↔ XX d 20 63 [v0, v1, v2, some (.int x), v4] (.int x :: st) A Q := c_lcl i_20_62 rfl rfl
theorem q_20_63 : XX d 20 63 [v0, v1, v2, v3, v4] (.int x :: .ref a :: st) (mk S I L R G) Q ↔ inA (S a) ok_i x ∧ XX d 20 64 [v0, v1, v2, v3, v4] (.int (I a (ix x)) :: st) (mk S I L R G) Q := r_ia i_20_63
theorem q_20_64 : XX d 20 64 [v0, v1, none, v3, v4] (.int x :: st) A Q ↔ XX d 20 65 [v0, v1, none, some (.int x), v4] st A Q := c_lcl i_20_64 rfl rfl
theorem q_20_65 : XX d 20 65 [v0, v1, v2, some (.int z), some (.int x)] st A Q ↔ XX d 20 68 [v0, v1, v2, some (.int z), some (.int (x + w 1))] st A Q := c_lcl i_20_65 rfl rfl
theorem q_20_68 : XX d 20 68 [v0, v1, v2, v3, v4] st A Q ↔ XX d 20 19 [v0, v1, v2, v3, v4] st A Q := c_go i_20_68 rfl rfl
theorem q_20_71 : XX d 20 71 [v0, some (.long lx), v2, v3, v4] st A Q ↔ XX d 20 72 [v0, some (.long lx), v2, v3, v4] (.long lx :: st) A Q := c_lcl i_20_71 rfl rfl
theorem q_20_72 : XX d 20 72 [v0, v1, v2, v3, v4] (.long lx :: st) A Q ↔ XX d 20 73 [v0, v1, v2, v3, v4] (.int lx.toInt32 :: st) A Q := c_stk i_20_72 rfl
theorem q_20_73 : XX d 20 73 [v0, v1, v2, v3, v4] [.int x] A Q ↔ Q (.inl (some (.int x))) A := e_retI i_20_73 rfl
theorem q_20_e : XC d 20 [.ref a0] A Q ↔ XX d 20 0 [some (.ref a0), none, none, none, none] [] A Q := Iff.rfl
theorem i_21_0 : t_ins 21 0 = some (.iconst 0) := by decide +kernel
theorem i_21_1 : t_ins 21 1 = some (.istore_n 3) := by decide +kernel
theorem i_21_2 : t_ins 21 2 = some (.iconst 0) := by decide +kernel
theorem i_21_3 : t_ins 21 3 = some (.istore 4) := by decide +kernel
theorem i_21_5 : t_ins 21 5 = some (.iload 4) := by decide +kernel
theorem i_21_7 : t_ins 21 7 = some (.iload_n 1) := by decide +kernel
theorem i_21_8 : t_ins 21 8 = some (.if_icmp .ge 28) := by decide +kernel
theorem i_21_11 : t_ins 21 11 = some (.iload_n 3) := by decide +kernel
theorem i_21_12 : t_ins 21 12 = some (.ifCond .lt 24) := by decide +kernel
theorem i_21_15 : t_ins 21 15 = some (.iload_n 3) := by decide +kernel
theorem i_21_16 : t_ins 21 16 = some (.aload_n 0) := by decide +kernel
theorem i_21_17 : t_ins 21 17 = some (.getfield 22) := by decide +kernel
theorem i_21_20 : t_ins 21 20 = some (.if_icmp .ge 16) := by decide +kernel
theorem i_21_23 : t_ins 21 23 = some (.aload_n 0) := by decide +kernel
theorem i_21_24 : t_ins 21 24 = some (.getfield 33) := by decide +kernel
theorem i_21_27 : t_ins 21 27 = some (.iload_n 3) := by decide +kernel
theorem i_21_28 : t_ins 21 28 = some (.iaload) := by decide +kernel
theorem i_21_29 : t_ins 21 29 = some (.istore_n 3) := by decide +kernel
theorem i_21_30 : t_ins 21 30 = some (.iinc 4 1) := by decide +kernel
theorem i_21_33 : t_ins 21 33 = some (.goto (-28)) := by decide +kernel
theorem i_21_36 : t_ins 21 36 = some (.iload_n 3) := by decide +kernel
theorem i_21_37 : t_ins 21 37 = some (.ifCond .lt 11) := by decide +kernel
theorem i_21_40 : t_ins 21 40 = some (.iload_n 3) := by decide +kernel
theorem i_21_41 : t_ins 21 41 = some (.aload_n 0) := by decide +kernel
theorem i_21_42 : t_ins 21 42 = some (.getfield 22) := by decide +kernel
theorem i_21_45 : t_ins 21 45 = some (.if_icmp .lt 5) := by decide +kernel
theorem i_21_48 : t_ins 21 48 = some (.iconst (-1)) := by decide +kernel
theorem i_21_49 : t_ins 21 49 = some (.ireturn) := by decide +kernel
theorem i_21_50 : t_ins 21 50 = some (.iload_n 2) := by decide +kernel
theorem i_21_51 : t_ins 21 51 = some (.ifCond .ne 12) := by decide +kernel
theorem i_21_54 : t_ins 21 54 = some (.aload_n 0) := by decide +kernel
theorem i_21_55 : t_ins 21 55 = some (.getfield 36) := by decide +kernel
theorem i_21_58 : t_ins 21 58 = some (.iload_n 3) := by decide +kernel
theorem i_21_59 : t_ins 21 59 = some (.iaload) := by decide +kernel
theorem i_21_60 : t_ins 21 60 = some (.goto 11) := by decide +kernel
theorem i_21_63 : t_ins 21 63 = some (.aload_n 0) := by decide +kernel
theorem i_21_64 : t_ins 21 64 = some (.getfield 33) := by decide +kernel
theorem i_21_67 : t_ins 21 67 = some (.iload_n 3) := by decide +kernel
theorem i_21_68 : t_ins 21 68 = some (.iaload) := by decide +kernel
theorem i_21_69 : t_ins 21 69 = some (.iload_n 3) := by decide +kernel
theorem i_21_70 : t_ins 21 70 = some (.isub) := by decide +kernel
theorem i_21_71 : t_ins 21 71 = some (.ireturn) := by decide +kernel
theorem q_21_0 : XX d 21 0 [v0, v1, v2, v3, v4] st A Q ↔ XX d 21 1 [v0, v1, v2, v3, v4] (.int (w 0) :: st) A Q := c_stk i_21_0 rfl
theorem q_21_1 : XX d 21 1 [v0, v1, some (.int z), v3, v4] (.int x :: st) A Q ↔ XX d 21 2 [v0, v1, some (.int z), some (.int x), v4] st A Q := c_lcl i_21_1 rfl rfl
theorem q_21_2 : XX d 21 2 [v0, v1, v2, v3, v4] st A Q ↔ XX d 21 3 [v0, v1, v2, v3, v4] (.int (w 0) :: st) A Q := c_stk i_21_2 rfl
theorem q_21_3 : XX d 21 3 [v0, v1, v2, some (.int z), v4] (.int x :: st) A Q ↔ XX d 21 5 [v0, v1, v2, some (.int z), some (.int x)] st A Q := c_lcl i_21_3 rfl rfl
theorem q_21_5 : XX d 21 5 [v0, v1, v2, v3, some (.int x)] st A Q ↔ XX d 21 7 [v0, v1, v2, v3, some (.int x)] (.int x :: st) A Q := c_lcl i_21_5 rfl rfl
theorem q_21_7 : XX d 21 7 [v0, some (.int x), v2, v3, v4] st A Q ↔ XX d 21 8 [v0, some (.int x), v2, v3, v4] (.int x :: st) A Q := c_lcl i_21_7 rfl rfl
theorem q_21_8 : XX d 21 8 [v0, v1, v2, v3, v4] (.int y :: .int x :: st) A Q ↔ if x < y then XX d 21 11 [v0, v1, v2, v3, v4] st A Q else XX d 21 36 [v0, v1, v2, v3, v4] st A Q := b_ge i_21_8 rfl rfl rfl
theorem q_21_11 : XX d 21 11 [v0, v1, v2, some (.int x), v4] st A Q ↔ XX d 21 12 [v0, v1, v2, some (.int x), v4] (.int x :: st) A Q := c_lcl i_21_11 rfl rfl
theorem q_21_12 : XX d 21 12 [v0, v1, v2, v3, v4] (.int x :: st) A Q ↔ if x < w 0 then XX d 21 36 [v0, v1, v2, v3, v4] st A Q else XX d 21 15 [v0, v1, v2, v3, v4] st A Q := z_lt i_21_12 rfl rfl rfl
theorem q_21_15 : XX d 21 15 [v0, v1, v2, some (.int x), v4] st A Q ↔ XX d 21 16 [v0, v1, v2, some (.int x), v4] (.int x :: st) A Q := c_lcl i_21_15 rfl rfl
theorem q_21_16 : XX d 21 16 [some (.ref a), v1, v2, v3, v4] st A Q ↔ XX d 21 17 [some (.ref a), v1, v2, v3, v4] (.ref a :: st) A Q := c_lcl i_21_16 rfl rfl
theorem q_21_17 : XX d 21 17 [v0, v1, v2, v3, v4] (.ref a :: st) (mk S I L R G) Q ↔ S a = some (.inr 2) ∧ XX d 21 20 [v0, v1, v2, v3, v4] (.int (I a 3) :: st) (mk S I L R G) Q := r_gf i_21_17 rfl (by decide) rfl
theorem q_21_20 : XX d 21 20 [v0, v1, v2, v3, v4] (.int y :: .int x :: st) A Q ↔ if x < y then XX d 21 23 [v0, v1, v2, v3, v4] st A Q else XX d 21 36 [v0, v1, v2, v3, v4] st A Q := b_ge i_21_20 rfl rfl rfl
theorem q_21_23 : XX d 21 23 [some (.ref a), v1, v2, v3, v4] st A Q ↔ XX d 21 24 [some (.ref a), v1, v2, v3, v4] (.ref a :: st) A Q := c_lcl i_21_23 rfl rfl
theorem q_21_24 : XX d 21 24 [v0, v1, v2, v3, v4] (.ref a :: st) (mk S I L R G) Q ↔ S a = some (.inr 2) ∧ XX d 21 27 [v0, v1, v2, v3, v4] (.ref (a + 6) :: st) (mk S I L R G) Q := r_gf i_21_24 rfl (by decide) rfl
theorem q_21_27 : XX d 21 27 [v0, v1, v2, some (.int x), v4] st A Q ↔ XX d 21 28 [v0, v1, v2, some (.int x), v4] (.int x :: st) A Q := c_lcl i_21_27 rfl rfl
theorem q_21_28 : XX d 21 28 [v0, v1, v2, v3, v4] (.int x :: .ref a :: st) (mk S I L R G) Q ↔ inA (S a) ok_i x ∧ XX d 21 29 [v0, v1, v2, v3, v4] (.int (I a (ix x)) :: st) (mk S I L R G) Q := r_ia i_21_28
theorem q_21_29 : XX d 21 29 [v0, v1, some (.int z), v3, v4] (.int x :: st) A Q ↔ XX d 21 30 [v0, v1, some (.int z), some (.int x), v4] st A Q := c_lcl i_21_29 rfl rfl
theorem q_21_30 : XX d 21 30 [v0, v1, v2, some (.int z), some (.int x)] st A Q ↔ XX d 21 33 [v0, v1, v2, some (.int z), some (.int (x + w 1))] st A Q := c_lcl i_21_30 rfl rfl
theorem q_21_33 : XX d 21 33 [v0, v1, v2, v3, v4] st A Q ↔ XX d 21 5 [v0, v1, v2, v3, v4] st A Q := c_go i_21_33 rfl rfl
theorem q_21_36 : XX d 21 36 [v0, v1, v2, some (.int x), v4] st A Q ↔ XX d 21 37 [v0, v1, v2, some (.int x), v4] (.int x :: st) A Q := c_lcl i_21_36 rfl rfl
theorem q_21_37 : XX d 21 37 [v0, v1, v2, v3, v4] (.int x :: st) A Q ↔ if x < w 0 then XX d 21 48 [v0, v1, v2, v3, v4] st A Q else XX d 21 40 [v0, v1, v2, v3, v4] st A Q := z_lt i_21_37 rfl rfl rfl
theorem q_21_40 : XX d 21 40 [v0, v1, v2, some (.int x), v4] st A Q ↔ XX d 21 41 [v0, v1, v2, some (.int x), v4] (.int x :: st) A Q := c_lcl i_21_40 rfl rfl
theorem q_21_41 : XX d 21 41 [some (.ref a), v1, v2, v3, v4] st A Q ↔ XX d 21 42 [some (.ref a), v1, v2, v3, v4] (.ref a :: st) A Q := c_lcl i_21_41 rfl rfl
theorem q_21_42 : XX d 21 42 [v0, v1, v2, v3, v4] (.ref a :: st) (mk S I L R G) Q ↔ S a = some (.inr 2) ∧ XX d 21 45 [v0, v1, v2, v3, v4] (.int (I a 3) :: st) (mk S I L R G) Q := r_gf i_21_42 rfl (by decide) rfl
theorem q_21_45 : XX d 21 45 [v0, v1, v2, v3, v4] (.int y :: .int x :: st) A Q ↔ if x < y then XX d 21 50 [v0, v1, v2, v3, v4] st A Q else XX d 21 48 [v0, v1, v2, v3, v4] st A Q := b_lt i_21_45 rfl rfl rfl
theorem q_21_48 : XX d 21 48 [v0, v1, v2, v3, v4] st A Q ↔ XX d 21 49 [v0, v1, v2, v3, v4] (.int (w (-1)) :: st) A Q := c_stk i_21_48 rfl
theorem q_21_49 : XX d 21 49 [v0, v1, v2, v3, v4] [.int x] A Q ↔ Q (.inl (some (.int x))) A := e_retI i_21_49 rfl
theorem q_21_50 : XX d 21 50 [v0, v1, some (.int x), v3, v4] st A Q ↔ XX d 21 51 [v0, v1, some (.int x), v3, v4] (.int x :: st) A Q := c_lcl i_21_50 rfl rfl
theorem q_21_51 : XX d 21 51 [v0, v1, v2, v3, v4] (.int x :: st) A Q ↔ if x = w 0 then XX d 21 54 [v0, v1, v2, v3, v4] st A Q else XX d 21 63 [v0, v1, v2, v3, v4] st A Q := z_ne i_21_51 rfl rfl rfl
theorem q_21_54 : XX d 21 54 [some (.ref a), v1, v2, v3, v4] st A Q ↔ XX d 21 55 [some (.ref a), v1, v2, v3, v4] (.ref a :: st) A Q := c_lcl i_21_54 rfl rfl
theorem q_21_55 : XX d 21 55 [v0, v1, v2, v3, v4] (.ref a :: st) (mk S I L R G) Q ↔ S a = some (.inr 2) ∧ XX d 21 58 [v0, v1, v2, v3, v4] (.ref (a + 7) :: st) (mk S I L R G) Q := r_gf i_21_55 rfl (by decide) rfl
theorem q_21_58 : XX d 21 58 [v0, v1, v2, some (.int x), v4] st A Q ↔ XX d 21 59 [v0, v1, v2, some (.int x), v4] (.int x :: st) A Q := c_lcl i_21_58 rfl rfl
theorem q_21_59 : XX d 21 59 [v0, v1, v2, v3, v4] (.int x :: .ref a :: st) (mk S I L R G) Q ↔ inA (S a) ok_i x ∧ XX d 21 60 [v0, v1, v2, v3, v4] (.int (I a (ix x)) :: st) (mk S I L R G) Q := r_ia i_21_59
theorem q_21_60 : XX d 21 60 [v0, v1, v2, v3, v4] st A Q ↔ XX d 21 71 [v0, v1, v2, v3, v4] st A Q := c_go i_21_60 rfl rfl
theorem q_21_63 : XX d 21 63 [some (.ref a), v1, v2, v3, v4] st A Q ↔ XX d 21 64 [some (.ref a), v1, v2, v3, v4] (.ref a :: st) A Q := c_lcl i_21_63 rfl rfl
theorem q_21_64 : XX d 21 64 [v0, v1, v2, v3, v4] (.ref a :: st) (mk S I L R G) Q ↔ S a = some (.inr 2) ∧ XX d 21 67 [v0, v1, v2, v3, v4] (.ref (a + 6) :: st) (mk S I L R G) Q := r_gf i_21_64 rfl (by decide) rfl
theorem q_21_67 : XX d 21 67 [v0, v1, v2, some (.int x), v4] st A Q ↔ XX d 21 68 [v0, v1, v2, some (.int x), v4] (.int x :: st) A Q := c_lcl i_21_67 rfl rfl
theorem q_21_68 : XX d 21 68 [v0, v1, v2, v3, v4] (.int x :: .ref a :: st) (mk S I L R G) Q ↔ inA (S a) ok_i x ∧ XX d 21 69 [v0, v1, v2, v3, v4] (.int (I a (ix x)) :: st) (mk S I L R G) Q := r_ia i_21_68
theorem q_21_69 : XX d 21 69 [v0, v1, v2, some (.int x), v4] st A Q ↔ XX d 21 70 [v0, v1, v2, some (.int x), v4] (.int x :: st) A Q := c_lcl i_21_69 rfl rfl
theorem q_21_70 : XX d 21 70 [v0, v1, v2, v3, v4] (.int y :: .int x :: st) A Q ↔ XX d 21 71 [v0, v1, v2, v3, v4] (.int (x - y) :: st) A Q := c_stk i_21_70 rfl
theorem q_21_71 : XX d 21 71 [v0, v1, v2, v3, v4] [.int x] A Q ↔ Q (.inl (some (.int x))) A := e_retI i_21_71 rfl
theorem q_21_e : XC d 21 [.ref a0, .int x1, .int x2] A Q ↔ XX d 21 0 [some (.ref a0), some (.int x1), some (.int x2), none, none] [] A Q := Iff.rfl
theorem i_22_0 : t_ins 22 0 = some (.aload_n 0) := by decide +kernel
theorem i_22_1 : t_ins 22 1 = some (.invokespecial 3) := by decide +kernel
theorem i_22_4 : t_ins 22 4 = some (.aload_n 0) := by decide +kernel
theorem i_22_5 : t_ins 22 5 = some (.bipush 12) := by decide +kernel
theorem i_22_7 : t_ins 22 7 = some (.anewarray 9) := by decide +kernel
theorem i_22_10 : t_ins 22 10 = some (.putfield 11) := by decide +kernel
theorem i_22_13 : t_ins 22 13 = some (.aload_n 0) := by decide +kernel
theorem i_22_14 : t_ins 22 14 = some (.iconst 0) := by decide +kernel
theorem i_22_15 : t_ins 22 15 = some (.putfield 17) := by decide +kernel
theorem i_22_18 : t_ins 22 18 = some (.aload_n 0) := by decide +kernel
theorem i_22_19 : t_ins 22 19 = some (.iconst 0) := by decide +kernel
theorem i_22_20 : t_ins 22 20 = some (.putfield 21) := by decide +kernel
theorem i_22_23 : t_ins 22 23 = some (.iconst 0) := by decide +kernel
theorem i_22_24 : t_ins 22 24 = some (.istore_n 1) := by decide +kernel
theorem i_22_25 : t_ins 22 25 = some (.iload_n 1) := by decide +kernel
theorem i_22_26 : t_ins 22 26 = some (.aload_n 0) := by decide +kernel
theorem i_22_27 : t_ins 22 27 = some (.getfield 11) := by decide +kernel
theorem i_22_30 : t_ins 22 30 = some (.arraylength) := by decide +kernel
theorem i_22_31 : t_ins 22 31 = some (.if_icmp .ge 22) := by decide +kernel
theorem i_22_34 : t_ins 22 34 = some (.aload_n 0) := by decide +kernel
theorem i_22_35 : t_ins 22 35 = some (.getfield 11) := by decide +kernel
theorem i_22_38 : t_ins 22 38 = some (.iload_n 1) := by decide +kernel
theorem i_22_39 : t_ins 22 39 = some (.new 9) := by decide +kernel
theorem i_22_42 : t_ins 22 42 = some (.dup) := by decide +kernel
theorem i_22_43 : t_ins 22 43 = some (.invokespecial 24) := by decide +kernel
theorem i_22_46 : t_ins 22 46 = some (.aastore) := by decide +kernel
theorem i_22_47 : t_ins 22 47 = some (.iinc 1 1) := by decide +kernel
theorem i_22_50 : t_ins 22 50 = some (.goto (-25)) := by decide +kernel
theorem i_22_53 : t_ins 22 53 = some (.return_) := by decide +kernel
theorem q_22_0 : XX d 22 0 [some (.ref a), v1] st A Q ↔ XX d 22 1 [some (.ref a), v1] (.ref a :: st) A Q := c_lcl i_22_0 rfl rfl
theorem q_22_4 : XX d 22 4 [some (.ref a), v1] st A Q ↔ XX d 22 5 [some (.ref a), v1] (.ref a :: st) A Q := c_lcl i_22_4 rfl rfl
theorem q_22_5 : XX d 22 5 [v0, v1] st A Q ↔ XX d 22 7 [v0, v1] (.int (w 12) :: st) A Q := c_stk i_22_5 rfl
theorem q_22_13 : XX d 22 13 [some (.ref a), v1] st A Q ↔ XX d 22 14 [some (.ref a), v1] (.ref a :: st) A Q := c_lcl i_22_13 rfl rfl
theorem q_22_14 : XX d 22 14 [v0, v1] st A Q ↔ XX d 22 15 [v0, v1] (.int (w 0) :: st) A Q := c_stk i_22_14 rfl
theorem q_22_18 : XX d 22 18 [some (.ref a), v1] st A Q ↔ XX d 22 19 [some (.ref a), v1] (.ref a :: st) A Q := c_lcl i_22_18 rfl rfl
theorem q_22_19 : XX d 22 19 [v0, v1] st A Q ↔ XX d 22 20 [v0, v1] (.int (w 0) :: st) A Q := c_stk i_22_19 rfl
theorem q_22_23 : XX d 22 23 [v0, v1] st A Q ↔ XX d 22 24 [v0, v1] (.int (w 0) :: st) A Q := c_stk i_22_23 rfl
theorem q_22_24 : XX d 22 24 [some (.ref b), v1] (.int x :: st) A Q ↔ XX d 22 25 [some (.ref b), some (.int x)] st A Q := c_lcl i_22_24 rfl rfl
theorem q_22_25 : XX d 22 25 [v0, some (.int x)] st A Q ↔ XX d 22 26 [v0, some (.int x)] (.int x :: st) A Q := c_lcl i_22_25 rfl rfl
theorem q_22_26 : XX d 22 26 [some (.ref a), v1] st A Q ↔ XX d 22 27 [some (.ref a), v1] (.ref a :: st) A Q := c_lcl i_22_26 rfl rfl
theorem q_22_27 : XX d 22 27 [v0, v1] (.ref a :: st) (mk S I L R G) Q ↔ S a = some (.inr 3) ∧ XX d 22 30 [v0, v1] (.ref (a + 1) :: st) (mk S I L R G) Q := r_gf i_22_27 rfl (by decide) rfl
theorem q_22_30 : XX d 22 30 [v0, v1] (.ref a :: st) (mk S I L R G) Q ↔ alP (S a) (fun n => XX d 22 31 [v0, v1] (.int n :: st) (mk S I L R G) Q) := r_al i_22_30
theorem q_22_31 : XX d 22 31 [v0, v1] (.int y :: .int x :: st) A Q ↔ if x < y then XX d 22 34 [v0, v1] st A Q else XX d 22 53 [v0, v1] st A Q := b_ge i_22_31 rfl rfl rfl
theorem q_22_34 : XX d 22 34 [some (.ref a), v1] st A Q ↔ XX d 22 35 [some (.ref a), v1] (.ref a :: st) A Q := c_lcl i_22_34 rfl rfl
theorem q_22_35 : XX d 22 35 [v0, v1] (.ref a :: st) (mk S I L R G) Q ↔ S a = some (.inr 3) ∧ XX d 22 38 [v0, v1] (.ref (a + 1) :: st) (mk S I L R G) Q := r_gf i_22_35 rfl (by decide) rfl
theorem q_22_38 : XX d 22 38 [v0, some (.int x)] st A Q ↔ XX d 22 39 [v0, some (.int x)] (.int x :: st) A Q := c_lcl i_22_38 rfl rfl
theorem q_22_42 : XX d 22 42 [v0, v1] (.ref a1 :: st) A Q ↔ XX d 22 43 [v0, v1] (.ref a1 :: .ref a1 :: st) A Q := c_stk i_22_42 rfl
theorem q_22_46 : XX d 22 46 [v0, v1] (.ref b :: .int x :: .ref a :: st) (mk S I L R G) Q ↔ aqP (S a) S (some b) x ∧ XX d 22 47 [v0, v1] st (mk S I L (wr R a (up (R a) (ix x) (some b))) G) Q := r_aqs i_22_46
theorem q_22_46o : XX d 22 46 [v0, v1] (va_rf o :: .int x :: .ref a :: st) (mk S I L R G) Q ↔ aqP (S a) S o x ∧ XX d 22 47 [v0, v1] st (mk S I L (wr R a (up (R a) (ix x) o)) G) Q := r_aqo i_22_46
theorem q_22_47 : XX d 22 47 [some (.ref b), some (.int x)] st A Q ↔ XX d 22 50 [some (.ref b), some (.int (x + w 1))] st A Q := c_lcl i_22_47 rfl rfl
theorem q_22_50 : XX d 22 50 [v0, v1] st A Q ↔ XX d 22 25 [v0, v1] st A Q := c_go i_22_50 rfl rfl
theorem q_22_53 : XX d 22 53 [v0, v1] [] A Q ↔ Q (.inl none) A := e_retN i_22_53 rfl
theorem q_22_e : XC d 22 [.ref a0] A Q ↔ XX d 22 0 [some (.ref a0), none] [] A Q := Iff.rfl
theorem i_23_0 : t_ins 23 0 = some (.aload_n 0) := by decide +kernel
theorem i_23_1 : t_ins 23 1 = some (.aload_n 0) := by decide +kernel
theorem i_23_2 : t_ins 23 2 = some (.getfield 17) := by decide +kernel
theorem i_23_5 : t_ins 23 5 = some (.invokevirtual 25) := by decide +kernel
theorem i_23_8 : t_ins 23 8 = some (.astore_n 2) := by decide +kernel
theorem i_23_9 : t_ins 23 9 = some (.aload_n 2) := by decide +kernel
theorem i_23_10 : t_ins 23 10 = some (.ifnull 8) := by decide +kernel
theorem i_23_13 : t_ins 23 13 = some (.aload_n 2) := by decide +kernel
theorem i_23_14 : t_ins 23 14 = some (.aload_n 1) := by decide +kernel
theorem i_23_15 : t_ins 23 15 = some (.invokevirtual 29) := by decide +kernel
theorem i_23_18 : t_ins 23 18 = some (.aload_n 0) := by decide +kernel
theorem i_23_19 : t_ins 23 19 = some (.aload_n 0) := by decide +kernel
theorem i_23_20 : t_ins 23 20 = some (.getfield 17) := by decide +kernel
theorem i_23_23 : t_ins 23 23 = some (.iconst 1) := by decide +kernel
theorem i_23_24 : t_ins 23 24 = some (.iadd) := by decide +kernel
theorem i_23_25 : t_ins 23 25 = some (.bipush 12) := by decide +kernel
theorem i_23_27 : t_ins 23 27 = some (.if_icmp .ge 12) := by decide +kernel
theorem i_23_30 : t_ins 23 30 = some (.aload_n 0) := by decide +kernel
theorem i_23_31 : t_ins 23 31 = some (.getfield 17) := by decide +kernel
theorem i_23_34 : t_ins 23 34 = some (.iconst 1) := by decide +kernel
theorem i_23_35 : t_ins 23 35 = some (.iadd) := by decide +kernel
theorem i_23_36 : t_ins 23 36 = some (.goto 4) := by decide +kernel
theorem i_23_39 : t_ins 23 39 = some (.iconst 0) := by decide +kernel
theorem i_23_40 : t_ins 23 40 = some (.putfield 17) := by decide +kernel
theorem i_23_43 : t_ins 23 43 = some (.aload_n 0) := by decide +kernel
theorem i_23_44 : t_ins 23 44 = some (.aload_n 0) := by decide +kernel
theorem i_23_45 : t_ins 23 45 = some (.getfield 21) := by decide +kernel
theorem i_23_48 : t_ins 23 48 = some (.iconst 1) := by decide +kernel
theorem i_23_49 : t_ins 23 49 = some (.iadd) := by decide +kernel
theorem i_23_50 : t_ins 23 50 = some (.bipush 12) := by decide +kernel
theorem i_23_52 : t_ins 23 52 = some (.invokestatic 33) := by decide +kernel
theorem i_23_55 : t_ins 23 55 = some (.putfield 21) := by decide +kernel
theorem i_23_58 : t_ins 23 58 = some (.return_) := by decide +kernel
theorem q_23_0 : XX d 23 0 [some (.ref a), v1, v2] st A Q ↔ XX d 23 1 [some (.ref a), v1, v2] (.ref a :: st) A Q := c_lcl i_23_0 rfl rfl
theorem q_23_1 : XX d 23 1 [some (.ref a), v1, v2] st A Q ↔ XX d 23 2 [some (.ref a), v1, v2] (.ref a :: st) A Q := c_lcl i_23_1 rfl rfl
theorem q_23_2 : XX d 23 2 [v0, v1, v2] (.ref a :: st) (mk S I L R G) Q ↔ S a = some (.inr 3) ∧ XX d 23 5 [v0, v1, v2] (.int (I a 1) :: st) (mk S I L R G) Q := r_gf i_23_2 rfl (by decide) rfl
theorem q_23_5 : XX (d + 1) 23 5 [v0, v1, v2] [.int x1, .ref a0] (mk S I L R G) Q ↔ S a0 = some (.inr 3) ∧ XC d 272 [.ref a0, .int x1] (mk S I L R G) (XK (d + 1) 23 5 [v0, v1, v2] [] Q) := c_callV i_23_5 rfl rfl rfl rfl (Nat.le_of_ble_eq_true rfl) (Nat.le_of_ble_eq_true rfl) rfl
theorem q_23_8 : XX d 23 8 [v0, some (.ref b), v2] (.ref a :: st) A Q ↔ XX d 23 9 [v0, some (.ref b), some (.ref a)] st A Q := c_lcl i_23_8 rfl rfl
theorem q_23_8o : XX d 23 8 [v0, some (.ref b), v2] (va_rf o :: st) A Q ↔ XX d 23 9 [v0, some (.ref b), some (va_rf o)] st A Q := by cases o <;> exact c_lcl i_23_8 rfl rfl
theorem q_23_9 : XX d 23 9 [v0, v1, some (.ref a)] st A Q ↔ XX d 23 10 [v0, v1, some (.ref a)] (.ref a :: st) A Q := c_lcl i_23_9 rfl rfl
theorem q_23_9o : XX d 23 9 [v0, v1, some (va_rf o)] st A Q ↔ XX d 23 10 [v0, v1, some (va_rf o)] (va_rf o :: st) A Q := by cases o <;> exact c_lcl i_23_9 rfl rfl
theorem q_23_10o : XX d 23 10 [v0, v1, v2] (va_rf o :: st) A Q ↔ if o = none then XX d 23 18 [v0, v1, v2] st A Q else XX d 23 13 [v0, v1, v2] st A Q := b_null i_23_10 rfl rfl rfl
theorem q_23_10 : XX d 23 10 [v0, v1, v2] (.ref a :: st) A Q ↔ XX d 23 13 [v0, v1, v2] st A Q := c_br i_23_10 rfl rfl rfl
theorem q_23_13 : XX d 23 13 [v0, v1, some (.ref a)] st A Q ↔ XX d 23 14 [v0, v1, some (.ref a)] (.ref a :: st) A Q := c_lcl i_23_13 rfl rfl
theorem q_23_13o : XX d 23 13 [v0, v1, some (va_rf o)] st A Q ↔ XX d 23 14 [v0, v1, some (va_rf o)] (va_rf o :: st) A Q := by cases o <;> exact c_lcl i_23_13 rfl rfl
theorem q_23_14 : XX d 23 14 [v0, some (.ref a), v2] st A Q ↔ XX d 23 15 [v0, some (.ref a), v2] (.ref a :: st) A Q := c_lcl i_23_14 rfl rfl
theorem q_23_15 : XX (d + 1) 23 15 [v0, v1, v2] [.ref a1, .ref a0] (mk S I L R G) Q ↔ S a0 = some (.inr 0) ∧ XC d 7 [.ref a0, .ref a1] (mk S I L R G) (XK (d + 1) 23 15 [v0, v1, v2] [] Q) := c_callV i_23_15 rfl rfl rfl rfl (Nat.le_of_ble_eq_true rfl) (Nat.le_of_ble_eq_true rfl) rfl
theorem q_23_18 : XX d 23 18 [some (.ref a), v1, v2] st A Q ↔ XX d 23 19 [some (.ref a), v1, v2] (.ref a :: st) A Q := c_lcl i_23_18 rfl rfl
theorem q_23_19 : XX d 23 19 [some (.ref a), v1, v2] st A Q ↔ XX d 23 20 [some (.ref a), v1, v2] (.ref a :: st) A Q := c_lcl i_23_19 rfl rfl
theorem q_23_20 : XX d 23 20 [v0, v1, v2] (.ref a :: st) (mk S I L R G) Q ↔ S a = some (.inr 3) ∧ XX d 23 23 [v0, v1, v2] (.int (I a 1) :: st) (mk S I L R G) Q := r_gf i_23_20 rfl (by decide) rfl
theorem q_23_23 : XX d 23 23 [v0, v1, v2] st A Q ↔ XX d 23 24 [v0, v1, v2] (.int (w 1) :: st) A Q := c_stk i_23_23 rfl
theorem q_23_24 : XX d 23 24 [v0, v1, v2] (.int y :: .int x :: st) A Q ↔ XX d 23 25 [v0, v1, v2] (.int (x + y) :: st) A Q := c_stk i_23_24 rfl
theorem q_23_25 : XX d 23 25 [v0, v1, v2] st A Q ↔ XX d 23 27 [v0, v1, v2] (.int (w 12) :: st) A Q := c_stk i_23_25 rfl
theorem q_23_27 : XX d 23 27 [v0, v1, v2] (.int y :: .int x :: st) A Q ↔ if x < y then XX d 23 30 [v0, v1, v2] st A Q else XX d 23 39 [v0, v1, v2] st A Q := b_ge i_23_27 rfl rfl rfl
theorem q_23_30 : XX d 23 30 [some (.ref a), v1, v2] st A Q ↔ XX d 23 31 [some (.ref a), v1, v2] (.ref a :: st) A Q := c_lcl i_23_30 rfl rfl
theorem q_23_31 : XX d 23 31 [v0, v1, v2] (.ref a :: st) (mk S I L R G) Q ↔ S a = some (.inr 3) ∧ XX d 23 34 [v0, v1, v2] (.int (I a 1) :: st) (mk S I L R G) Q := r_gf i_23_31 rfl (by decide) rfl
theorem q_23_34 : XX d 23 34 [v0, v1, v2] st A Q ↔ XX d 23 35 [v0, v1, v2] (.int (w 1) :: st) A Q := c_stk i_23_34 rfl
theorem q_23_35 : XX d 23 35 [v0, v1, v2] (.int y :: .int x :: st) A Q ↔ XX d 23 36 [v0, v1, v2] (.int (x + y) :: st) A Q := c_stk i_23_35 rfl
theorem q_23_36 : XX d 23 36 [v0, v1, v2] st A Q ↔ XX d 23 40 [v0, v1, v2] st A Q := c_go i_23_36 rfl rfl
theorem q_23_39 : XX d 23 39 [v0, v1, v2] st A Q ↔ XX d 23 40 [v0, v1, v2] (.int (w 0) :: st) A Q := c_stk i_23_39 rfl
theorem q_23_40 : XX d 23 40 [v0, v1, v2] (.int x :: .ref a :: st) (mk S I L R G) Q ↔ S a = some (.inr 3) ∧ XX d 23 43 [v0, v1, v2] st (mk S (wr I a (up (I a) 1 x)) L R G) Q := r_pf i_23_40 rfl (by decide) rfl rfl rfl
theorem q_23_43 : XX d 23 43 [some (.ref a), v1, v2] st A Q ↔ XX d 23 44 [some (.ref a), v1, v2] (.ref a :: st) A Q := c_lcl i_23_43 rfl rfl
theorem q_23_44 : XX d 23 44 [some (.ref a), v1, v2] st A Q ↔ XX d 23 45 [some (.ref a), v1, v2] (.ref a :: st) A Q := c_lcl i_23_44 rfl rfl
theorem q_23_45 : XX d 23 45 [v0, v1, v2] (.ref a :: st) (mk S I L R G) Q ↔ S a = some (.inr 3) ∧ XX d 23 48 [v0, v1, v2] (.int (I a 2) :: st) (mk S I L R G) Q := r_gf i_23_45 rfl (by decide) rfl
theorem q_23_48 : XX d 23 48 [v0, v1, v2] st A Q ↔ XX d 23 49 [v0, v1, v2] (.int (w 1) :: st) A Q := c_stk i_23_48 rfl
theorem q_23_49 : XX d 23 49 [v0, v1, v2] (.int y :: .int x :: st) A Q ↔ XX d 23 50 [v0, v1, v2] (.int (x + y) :: st) A Q := c_stk i_23_49 rfl
theorem q_23_50 : XX d 23 50 [v0, v1, v2] st A Q ↔ XX d 23 52 [v0, v1, v2] (.int (w 12) :: st) A Q := c_stk i_23_50 rfl
theorem q_23_52 : XX d 23 52 [v0, v1, v2] [.int y, .int x, .ref a0] A Q ↔ XX d 23 55 [v0, v1, v2] [.int (if y < x then y else x), .ref a0] A Q := r_min i_23_52 rfl rfl (Nat.le_of_ble_eq_true rfl)
theorem q_23_55 : XX d 23 55 [v0, v1, v2] (.int x :: .ref a :: st) (mk S I L R G) Q ↔ S a = some (.inr 3) ∧ XX d 23 58 [v0, v1, v2] st (mk S (wr I a (up (I a) 2 x)) L R G) Q := r_pf i_23_55 rfl (by decide) rfl rfl rfl
theorem q_23_58 : XX d 23 58 [v0, v1, v2] [] A Q ↔ Q (.inl none) A := e_retN i_23_58 rfl
theorem q_23_e : XC d 23 [.ref a0, .ref a1] A Q ↔ XX d 23 0 [some (.ref a0), some (.ref a1), none] [] A Q := Iff.rfl
theorem i_24_0 : t_ins 24 0 = some (.aload_n 0) := by decide +kernel
theorem i_24_1 : t_ins 24 1 = some (.aload_n 0) := by decide +kernel
theorem i_24_2 : t_ins 24 2 = some (.getfield 17) := by decide +kernel
theorem i_24_5 : t_ins 24 5 = some (.ifCond .le 12) := by decide +kernel
theorem i_24_8 : t_ins 24 8 = some (.aload_n 0) := by decide +kernel
theorem i_24_9 : t_ins 24 9 = some (.getfield 17) := by decide +kernel
theorem i_24_12 : t_ins 24 12 = some (.iconst 1) := by decide +kernel
theorem i_24_13 : t_ins 24 13 = some (.isub) := by decide +kernel
theorem i_24_14 : t_ins 24 14 = some (.goto 5) := by decide +kernel
theorem i_24_17 : t_ins 24 17 = some (.bipush 11) := by decide +kernel
theorem i_24_19 : t_ins 24 19 = some (.putfield 17) := by decide +kernel
theorem i_24_22 : t_ins 24 22 = some (.aload_n 0) := by decide +kernel
theorem i_24_23 : t_ins 24 23 = some (.aload_n 0) := by decide +kernel
theorem i_24_24 : t_ins 24 24 = some (.getfield 21) := by decide +kernel
theorem i_24_27 : t_ins 24 27 = some (.iconst 1) := by decide +kernel
theorem i_24_28 : t_ins 24 28 = some (.isub) := by decide +kernel
theorem i_24_29 : t_ins 24 29 = some (.iconst 0) := by decide +kernel
theorem i_24_30 : t_ins 24 30 = some (.invokestatic 39) := by decide +kernel
theorem i_24_33 : t_ins 24 33 = some (.putfield 21) := by decide +kernel
theorem i_24_36 : t_ins 24 36 = some (.aload_n 0) := by decide +kernel
theorem i_24_37 : t_ins 24 37 = some (.aload_n 0) := by decide +kernel
theorem i_24_38 : t_ins 24 38 = some (.getfield 17) := by decide +kernel
theorem i_24_41 : t_ins 24 41 = some (.invokevirtual 25) := by decide +kernel
theorem i_24_44 : t_ins 24 44 = some (.astore_n 2) := by decide +kernel
theorem i_24_45 : t_ins 24 45 = some (.aload_n 2) := by decide +kernel
theorem i_24_46 : t_ins 24 46 = some (.ifnull 8) := by decide +kernel
theorem i_24_49 : t_ins 24 49 = some (.aload_n 1) := by decide +kernel
theorem i_24_50 : t_ins 24 50 = some (.aload_n 2) := by decide +kernel
theorem i_24_51 : t_ins 24 51 = some (.invokevirtual 29) := by decide +kernel
theorem i_24_54 : t_ins 24 54 = some (.return_) := by decide +kernel
theorem q_24_0 : XX d 24 0 [some (.ref a), v1, v2] st A Q ↔ XX d 24 1 [some (.ref a), v1, v2] (.ref a :: st) A Q := c_lcl i_24_0 rfl rfl
theorem q_24_1 : XX d 24 1 [some (.ref a), v1, v2] st A Q ↔ XX d 24 2 [some (.ref a), v1, v2] (.ref a :: st) A Q := c_lcl i_24_1 rfl rfl
theorem q_24_2 : XX d 24 2 [v0, v1, v2] (.ref a :: st) (mk S I L R G) Q ↔ S a = some (.inr 3) ∧ XX d 24 5 [v0, v1, v2] (.int (I a 1) :: st) (mk S I L R G) Q := r_gf i_24_2 rfl (by decide) rfl
theorem q_24_5 : XX d 24 5 [v0, v1, v2] (.int x :: st) A Q ↔ if w 0 < x then XX d 24 8 [v0, v1, v2] st A Q else XX d 24 17 [v0, v1, v2] st A Q := z_le i_24_5 rfl rfl rfl
theorem q_24_8 : XX d 24 8 [some (.ref a), v1, v2] st A Q ↔ XX d 24 9 [some (.ref a), v1, v2] (.ref a :: st) A Q := c_lcl i_24_8 rfl rfl
theorem q_24_9 : XX d 24 9 [v0, v1, v2] (.ref a :: st) (mk S I L R G) Q ↔ S a = some (.inr 3) ∧ XX d 24 12 [v0, v1, v2] (.int (I a 1) :: st) (mk S I L R G) Q := r_gf i_24_9 rfl (by decide) rfl
theorem q_24_12 : XX d 24 12 [v0, v1, v2] st A Q ↔ XX d 24 13 [v0, v1, v2] (.int (w 1) :: st) A Q := c_stk i_24_12 rfl
theorem q_24_13 : XX d 24 13 [v0, v1, v2] (.int y :: .int x :: st) A Q ↔ XX d 24 14 [v0, v1, v2] (.int (x - y) :: st) A Q := c_stk i_24_13 rfl
theorem q_24_14 : XX d 24 14 [v0, v1, v2] st A Q ↔ XX d 24 19 [v0, v1, v2] st A Q := c_go i_24_14 rfl rfl
theorem q_24_17 : XX d 24 17 [v0, v1, v2] st A Q ↔ XX d 24 19 [v0, v1, v2] (.int (w 11) :: st) A Q := c_stk i_24_17 rfl
theorem q_24_19 : XX d 24 19 [v0, v1, v2] (.int x :: .ref a :: st) (mk S I L R G) Q ↔ S a = some (.inr 3) ∧ XX d 24 22 [v0, v1, v2] st (mk S (wr I a (up (I a) 1 x)) L R G) Q := r_pf i_24_19 rfl (by decide) rfl rfl rfl
theorem q_24_22 : XX d 24 22 [some (.ref a), v1, v2] st A Q ↔ XX d 24 23 [some (.ref a), v1, v2] (.ref a :: st) A Q := c_lcl i_24_22 rfl rfl
theorem q_24_23 : XX d 24 23 [some (.ref a), v1, v2] st A Q ↔ XX d 24 24 [some (.ref a), v1, v2] (.ref a :: st) A Q := c_lcl i_24_23 rfl rfl
theorem q_24_24 : XX d 24 24 [v0, v1, v2] (.ref a :: st) (mk S I L R G) Q ↔ S a = some (.inr 3) ∧ XX d 24 27 [v0, v1, v2] (.int (I a 2) :: st) (mk S I L R G) Q := r_gf i_24_24 rfl (by decide) rfl
theorem q_24_27 : XX d 24 27 [v0, v1, v2] st A Q ↔ XX d 24 28 [v0, v1, v2] (.int (w 1) :: st) A Q := c_stk i_24_27 rfl
theorem q_24_28 : XX d 24 28 [v0, v1, v2] (.int y :: .int x :: st) A Q ↔ XX d 24 29 [v0, v1, v2] (.int (x - y) :: st) A Q := c_stk i_24_28 rfl
theorem q_24_29 : XX d 24 29 [v0, v1, v2] st A Q ↔ XX d 24 30 [v0, v1, v2] (.int (w 0) :: st) A Q := c_stk i_24_29 rfl
theorem q_24_30 : XX d 24 30 [v0, v1, v2] [.int y, .int x, .ref a0] A Q ↔ XX d 24 33 [v0, v1, v2] [.int (if x < y then y else x), .ref a0] A Q := r_max i_24_30 rfl rfl (Nat.le_of_ble_eq_true rfl)
theorem q_24_33 : XX d 24 33 [v0, v1, v2] (.int x :: .ref a :: st) (mk S I L R G) Q ↔ S a = some (.inr 3) ∧ XX d 24 36 [v0, v1, v2] st (mk S (wr I a (up (I a) 2 x)) L R G) Q := r_pf i_24_33 rfl (by decide) rfl rfl rfl
theorem q_24_36 : XX d 24 36 [some (.ref a), v1, v2] st A Q ↔ XX d 24 37 [some (.ref a), v1, v2] (.ref a :: st) A Q := c_lcl i_24_36 rfl rfl
theorem q_24_37 : XX d 24 37 [some (.ref a), v1, v2] st A Q ↔ XX d 24 38 [some (.ref a), v1, v2] (.ref a :: st) A Q := c_lcl i_24_37 rfl rfl
theorem q_24_38 : XX d 24 38 [v0, v1, v2] (.ref a :: st) (mk S I L R G) Q ↔ S a = some (.inr 3) ∧ XX d 24 41 [v0, v1, v2] (.int (I a 1) :: st) (mk S I L R G) Q := r_gf i_24_38 rfl (by decide) rfl
theorem q_24_41 : XX (d + 1) 24 41 [v0, v1, v2] [.int x1, .ref a0] (mk S I L R G) Q ↔ S a0 = some (.inr 3) ∧ XC d 272 [.ref a0, .int x1] (mk S I L R G) (XK (d + 1) 24 41 [v0, v1, v2] [] Q) := c_callV i_24_41 rfl rfl rfl rfl (Nat.le_of_ble_eq_true rfl) (Nat.le_of_ble_eq_true rfl) rfl
theorem q_24_44 : XX d 24 44 [v0, some (.ref b), v2] (.ref a :: st) A Q ↔ XX d 24 45 [v0, some (.ref b), some (.ref a)] st A Q := c_lcl i_24_44 rfl rfl
theorem q_24_44o : XX d 24 44 [v0, some (.ref b), v2] (va_rf o :: st) A Q ↔ XX d 24 45 [v0, some (.ref b), some (va_rf o)] st A Q := by cases o <;> exact c_lcl i_24_44 rfl rfl
theorem q_24_45 : XX d 24 45 [v0, v1, some (.ref a)] st A Q ↔ XX d 24 46 [v0, v1, some (.ref a)] (.ref a :: st) A Q := c_lcl i_24_45 rfl rfl
theorem q_24_45o : XX d 24 45 [v0, v1, some (va_rf o)] st A Q ↔ XX d 24 46 [v0, v1, some (va_rf o)] (va_rf o :: st) A Q := by cases o <;> exact c_lcl i_24_45 rfl rfl
theorem q_24_46o : XX d 24 46 [v0, v1, v2] (va_rf o :: st) A Q ↔ if o = none then XX d 24 54 [v0, v1, v2] st A Q else XX d 24 49 [v0, v1, v2] st A Q := b_null i_24_46 rfl rfl rfl
theorem q_24_46 : XX d 24 46 [v0, v1, v2] (.ref a :: st) A Q ↔ XX d 24 49 [v0, v1, v2] st A Q := c_br i_24_46 rfl rfl rfl
theorem q_24_49 : XX d 24 49 [v0, some (.ref a), v2] st A Q ↔ XX d 24 50 [v0, some (.ref a), v2] (.ref a :: st) A Q := c_lcl i_24_49 rfl rfl
theorem q_24_50 : XX d 24 50 [v0, v1, some (.ref a)] st A Q ↔ XX d 24 51 [v0, v1, some (.ref a)] (.ref a :: st) A Q := c_lcl i_24_50 rfl rfl
theorem q_24_50o : XX d 24 50 [v0, v1, some (va_rf o)] st A Q ↔ XX d 24 51 [v0, v1, some (va_rf o)] (va_rf o :: st) A Q := by cases o <;> exact c_lcl i_24_50 rfl rfl
theorem q_24_51 : XX (d + 1) 24 51 [v0, v1, v2] [.ref a1, .ref a0] (mk S I L R G) Q ↔ S a0 = some (.inr 0) ∧ XC d 7 [.ref a0, .ref a1] (mk S I L R G) (XK (d + 1) 24 51 [v0, v1, v2] [] Q) := c_callV i_24_51 rfl rfl rfl rfl (Nat.le_of_ble_eq_true rfl) (Nat.le_of_ble_eq_true rfl) rfl
theorem q_24_51o : XX (d + 1) 24 51 [v0, v1, v2] [va_rf o1, .ref a0] (mk S I L R G) Q ↔ S a0 = some (.inr 0) ∧ XC d 7 [.ref a0, va_rf o1] (mk S I L R G) (XK (d + 1) 24 51 [v0, v1, v2] [] Q) := by cases o1 <;> exact c_callV i_24_51 rfl rfl rfl rfl (Nat.le_of_ble_eq_true rfl) (Nat.le_of_ble_eq_true rfl) rfl
theorem q_24_54 : XX d 24 54 [v0, v1, v2] [] A Q ↔ Q (.inl none) A := e_retN i_24_54 rfl
theorem q_24_e : XC d 24 [.ref a0, .ref a1] A Q ↔ XX d 24 0 [some (.ref a0), some (.ref a1), none] [] A Q := Iff.rfl
end

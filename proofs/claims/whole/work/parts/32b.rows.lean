/-! rows of methods 25 to 58 -/
section
variable {d : Nat} {Q : XO → Hp → Prop} {S : SH} {I : MI} {L : ML} {R : MR} {G : MG} {A : Hp} {st : List Value} {x y z x0 x1 x2 x3 x4 x5 x6 x7 x8 x9 : Int32} {lx ly l0 l1 l2 l3 l4 l5 l6 : Int64} {t kk jj a b a0 a1 a2 a3 a4 a5 a6 a7 a8 a9 : Nat} {o o0 o1 o2 o3 o4 : Option Nat} {v0 v1 v2 v3 v4 v5 v6 v7 v8 v9 v10 v11 v12 v13 v14 v15 v16 v17 v18 v19 v20 : Option Value}
theorem i_25_0 : t_ins 25 0 = some (.aload_n 0) := by decide +kernel
theorem i_25_1 : t_ins 25 1 = some (.invokespecial 5) := by decide +kernel
theorem i_25_4 : t_ins 25 4 = some (.aload_n 0) := by decide +kernel
theorem i_25_5 : t_ins 25 5 = some (.ldc 11) := by decide +kernel
theorem i_25_7 : t_ins 25 7 = some (.newarray .byte) := by decide +kernel
theorem i_25_9 : t_ins 25 9 = some (.putfield 12) := by decide +kernel
theorem i_25_12 : t_ins 25 12 = some (.aload_n 0) := by decide +kernel
theorem i_25_13 : t_ins 25 13 = some (.sipush 1152) := by decide +kernel
theorem i_25_16 : t_ins 25 16 = some (.newarray .int) := by decide +kernel
theorem i_25_18 : t_ins 25 18 = some (.putfield 16) := by decide +kernel
theorem i_25_21 : t_ins 25 21 = some (.aload_n 0) := by decide +kernel
theorem i_25_22 : t_ins 25 22 = some (.sipush 1152) := by decide +kernel
theorem i_25_25 : t_ins 25 25 = some (.newarray .int) := by decide +kernel
theorem i_25_27 : t_ins 25 27 = some (.putfield 20) := by decide +kernel
theorem i_25_30 : t_ins 25 30 = some (.aload_n 0) := by decide +kernel
theorem i_25_31 : t_ins 25 31 = some (.sipush 1152) := by decide +kernel
theorem i_25_34 : t_ins 25 34 = some (.newarray .int) := by decide +kernel
theorem i_25_36 : t_ins 25 36 = some (.putfield 23) := by decide +kernel
theorem i_25_39 : t_ins 25 39 = some (.aload_n 0) := by decide +kernel
theorem i_25_40 : t_ins 25 40 = some (.sipush 1152) := by decide +kernel
theorem i_25_43 : t_ins 25 43 = some (.newarray .int) := by decide +kernel
theorem i_25_45 : t_ins 25 45 = some (.putfield 26) := by decide +kernel
theorem i_25_48 : t_ins 25 48 = some (.aload_n 0) := by decide +kernel
theorem i_25_49 : t_ins 25 49 = some (.invokevirtual 29) := by decide +kernel
theorem i_25_52 : t_ins 25 52 = some (.return_) := by decide +kernel
theorem q_25_0 : XX d 25 0 [some (.ref a)] st A Q ↔ XX d 25 1 [some (.ref a)] (.ref a :: st) A Q := c_lcl i_25_0 rfl rfl
theorem q_25_4 : XX d 25 4 [some (.ref a)] st A Q ↔ XX d 25 5 [some (.ref a)] (.ref a :: st) A Q := c_lcl i_25_4 rfl rfl
theorem q_25_5 : XX d 25 5 [v0] st A Q ↔ XX d 25 7 [v0] (.int (w 115200) :: st) A Q := r_ldc i_25_5 rfl
theorem q_25_12 : XX d 25 12 [some (.ref a)] st A Q ↔ XX d 25 13 [some (.ref a)] (.ref a :: st) A Q := c_lcl i_25_12 rfl rfl
theorem q_25_13 : XX d 25 13 [v0] st A Q ↔ XX d 25 16 [v0] (.int (w 1152) :: st) A Q := c_stk i_25_13 rfl
theorem q_25_21 : XX d 25 21 [some (.ref a)] st A Q ↔ XX d 25 22 [some (.ref a)] (.ref a :: st) A Q := c_lcl i_25_21 rfl rfl
theorem q_25_22 : XX d 25 22 [v0] st A Q ↔ XX d 25 25 [v0] (.int (w 1152) :: st) A Q := c_stk i_25_22 rfl
theorem q_25_30 : XX d 25 30 [some (.ref a)] st A Q ↔ XX d 25 31 [some (.ref a)] (.ref a :: st) A Q := c_lcl i_25_30 rfl rfl
theorem q_25_31 : XX d 25 31 [v0] st A Q ↔ XX d 25 34 [v0] (.int (w 1152) :: st) A Q := c_stk i_25_31 rfl
theorem q_25_39 : XX d 25 39 [some (.ref a)] st A Q ↔ XX d 25 40 [some (.ref a)] (.ref a :: st) A Q := c_lcl i_25_39 rfl rfl
theorem q_25_40 : XX d 25 40 [v0] st A Q ↔ XX d 25 43 [v0] (.int (w 1152) :: st) A Q := c_stk i_25_40 rfl
theorem q_25_48 : XX d 25 48 [some (.ref a)] st A Q ↔ XX d 25 49 [some (.ref a)] (.ref a :: st) A Q := c_lcl i_25_48 rfl rfl
theorem q_25_49 : XX (d + 1) 25 49 [v0] [.ref a0] (mk S I L R G) Q ↔ S a0 = some (.inr 4) ∧ XC d 26 [.ref a0] (mk S I L R G) (XK (d + 1) 25 49 [v0] [] Q) := c_callV i_25_49 rfl rfl rfl rfl (Nat.le_of_ble_eq_true rfl) (Nat.le_of_ble_eq_true rfl) rfl
theorem q_25_52 : XX d 25 52 [v0] [] A Q ↔ Q (.inl none) A := e_retN i_25_52 rfl
theorem q_25_e : XC d 25 [.ref a0] A Q ↔ XX d 25 0 [some (.ref a0)] [] A Q := Iff.rfl
theorem i_26_0 : t_ins 26 0 = some (.aload_n 0) := by decide +kernel
theorem i_26_1 : t_ins 26 1 = some (.getfield 16) := by decide +kernel
theorem i_26_4 : t_ins 26 4 = some (.iconst (-1)) := by decide +kernel
theorem i_26_5 : t_ins 26 5 = some (.invokestatic 32) := by decide +kernel
theorem i_26_8 : t_ins 26 8 = some (.return_) := by decide +kernel
theorem q_26_0 : XX d 26 0 [some (.ref a)] st A Q ↔ XX d 26 1 [some (.ref a)] (.ref a :: st) A Q := c_lcl i_26_0 rfl rfl
theorem q_26_1 : XX d 26 1 [v0] (.ref a :: st) (mk S I L R G) Q ↔ S a = some (.inr 4) ∧ XX d 26 4 [v0] (.ref (a + 2) :: st) (mk S I L R G) Q := r_gf i_26_1 rfl (by decide) rfl
theorem q_26_4 : XX d 26 4 [v0] st A Q ↔ XX d 26 5 [v0] (.int (w (-1)) :: st) A Q := c_stk i_26_4 rfl
theorem q_26_5 : XX (d + 1) 26 5 [v0] [.int x1, .ref a0] A Q ↔ XC d 269 [.ref a0, .int x1] A (XK (d + 1) 26 5 [v0] [] Q) := c_callS i_26_5 rfl rfl rfl rfl (Nat.le_of_ble_eq_true rfl) (Nat.le_of_ble_eq_true rfl)
theorem q_26_8 : XX d 26 8 [v0] [] A Q ↔ Q (.inl none) A := e_retN i_26_8 rfl
theorem q_26_e : XC d 26 [.ref a0] A Q ↔ XX d 26 0 [some (.ref a0)] [] A Q := Iff.rfl
theorem i_27_0 : t_ins 27 0 = some (.iload_n 1) := by decide +kernel
theorem i_27_1 : t_ins 27 1 = some (.sipush 1000) := by decide +kernel
theorem i_27_4 : t_ins 27 4 = some (.if_icmp .gt 13) := by decide +kernel
theorem i_27_7 : t_ins 27 7 = some (.iload_n 1) := by decide +kernel
theorem i_27_8 : t_ins 27 8 = some (.ifCond .ge 7) := by decide +kernel
theorem i_27_11 : t_ins 27 11 = some (.iconst 0) := by decide +kernel
theorem i_27_12 : t_ins 27 12 = some (.goto 4) := by decide +kernel
theorem i_27_15 : t_ins 27 15 = some (.iload_n 1) := by decide +kernel
theorem i_27_16 : t_ins 27 16 = some (.ireturn) := by decide +kernel
theorem i_27_17 : t_ins 27 17 = some (.sipush 1001) := by decide +kernel
theorem i_27_20 : t_ins 27 20 = some (.iload_n 1) := by decide +kernel
theorem i_27_21 : t_ins 27 21 = some (.sipush 151) := by decide +kernel
theorem i_27_24 : t_ins 27 24 = some (.irem) := by decide +kernel
theorem i_27_25 : t_ins 27 25 = some (.iadd) := by decide +kernel
theorem i_27_26 : t_ins 27 26 = some (.ireturn) := by decide +kernel
theorem q_27_0 : XX d 27 0 [v0, some (.int x)] st A Q ↔ XX d 27 1 [v0, some (.int x)] (.int x :: st) A Q := c_lcl i_27_0 rfl rfl
theorem q_27_1 : XX d 27 1 [v0, v1] st A Q ↔ XX d 27 4 [v0, v1] (.int (w 1000) :: st) A Q := c_stk i_27_1 rfl
theorem q_27_4 : XX d 27 4 [v0, v1] (.int y :: .int x :: st) A Q ↔ if y < x then XX d 27 17 [v0, v1] st A Q else XX d 27 7 [v0, v1] st A Q := b_gt i_27_4 rfl rfl rfl
theorem q_27_7 : XX d 27 7 [v0, some (.int x)] st A Q ↔ XX d 27 8 [v0, some (.int x)] (.int x :: st) A Q := c_lcl i_27_7 rfl rfl
theorem q_27_8 : XX d 27 8 [v0, v1] (.int x :: st) A Q ↔ if x < w 0 then XX d 27 11 [v0, v1] st A Q else XX d 27 15 [v0, v1] st A Q := z_ge i_27_8 rfl rfl rfl
theorem q_27_11 : XX d 27 11 [v0, v1] st A Q ↔ XX d 27 12 [v0, v1] (.int (w 0) :: st) A Q := c_stk i_27_11 rfl
theorem q_27_12 : XX d 27 12 [v0, v1] st A Q ↔ XX d 27 16 [v0, v1] st A Q := c_go i_27_12 rfl rfl
theorem q_27_15 : XX d 27 15 [v0, some (.int x)] st A Q ↔ XX d 27 16 [v0, some (.int x)] (.int x :: st) A Q := c_lcl i_27_15 rfl rfl
theorem q_27_16 : XX d 27 16 [v0, v1] [.int x] A Q ↔ Q (.inl (some (.int x))) A := e_retI i_27_16 rfl
theorem q_27_17 : XX d 27 17 [v0, v1] st A Q ↔ XX d 27 20 [v0, v1] (.int (w 1001) :: st) A Q := c_stk i_27_17 rfl
theorem q_27_20 : XX d 27 20 [v0, some (.int x)] st A Q ↔ XX d 27 21 [v0, some (.int x)] (.int x :: st) A Q := c_lcl i_27_20 rfl rfl
theorem q_27_21 : XX d 27 21 [v0, v1] st A Q ↔ XX d 27 24 [v0, v1] (.int (w 151) :: st) A Q := c_stk i_27_21 rfl
theorem q_27_24 : XX d 27 24 [v0, v1] (.int y :: .int x :: st) A Q ↔ ¬ y = w 0 ∧ XX d 27 25 [v0, v1] (.int (x - x / y * y) :: st) A Q := c_rem i_27_24
theorem q_27_25 : XX d 27 25 [v0, v1] (.int y :: .int x :: st) A Q ↔ XX d 27 26 [v0, v1] (.int (x + y) :: st) A Q := c_stk i_27_25 rfl
theorem q_27_26 : XX d 27 26 [v0, v1] [.int x] A Q ↔ Q (.inl (some (.int x))) A := e_retI i_27_26 rfl
theorem q_27_e : XC d 27 [.ref a0, .int x1] A Q ↔ XX d 27 0 [some (.ref a0), some (.int x1)] [] A Q := Iff.rfl
theorem i_28_0 : t_ins 28 0 = some (.iload_n 1) := by decide +kernel
theorem i_28_1 : t_ins 28 1 = some (.ifCond .lt 21) := by decide +kernel
theorem i_28_4 : t_ins 28 4 = some (.aload_n 0) := by decide +kernel
theorem i_28_5 : t_ins 28 5 = some (.getfield 16) := by decide +kernel
theorem i_28_8 : t_ins 28 8 = some (.aload_n 0) := by decide +kernel
theorem i_28_9 : t_ins 28 9 = some (.iload_n 1) := by decide +kernel
theorem i_28_10 : t_ins 28 10 = some (.invokevirtual 38) := by decide +kernel
theorem i_28_13 : t_ins 28 13 = some (.iaload) := by decide +kernel
theorem i_28_14 : t_ins 28 14 = some (.iload_n 1) := by decide +kernel
theorem i_28_15 : t_ins 28 15 = some (.if_icmp .ne 7) := by decide +kernel
theorem i_28_18 : t_ins 28 18 = some (.iconst 1) := by decide +kernel
theorem i_28_19 : t_ins 28 19 = some (.goto 4) := by decide +kernel
theorem i_28_22 : t_ins 28 22 = some (.iconst 0) := by decide +kernel
theorem i_28_23 : t_ins 28 23 = some (.ireturn) := by decide +kernel
theorem q_28_0 : XX d 28 0 [v0, some (.int x)] st A Q ↔ XX d 28 1 [v0, some (.int x)] (.int x :: st) A Q := c_lcl i_28_0 rfl rfl
theorem q_28_1 : XX d 28 1 [v0, v1] (.int x :: st) A Q ↔ if x < w 0 then XX d 28 22 [v0, v1] st A Q else XX d 28 4 [v0, v1] st A Q := z_lt i_28_1 rfl rfl rfl
theorem q_28_4 : XX d 28 4 [some (.ref a), v1] st A Q ↔ XX d 28 5 [some (.ref a), v1] (.ref a :: st) A Q := c_lcl i_28_4 rfl rfl
theorem q_28_5 : XX d 28 5 [v0, v1] (.ref a :: st) (mk S I L R G) Q ↔ S a = some (.inr 4) ∧ XX d 28 8 [v0, v1] (.ref (a + 2) :: st) (mk S I L R G) Q := r_gf i_28_5 rfl (by decide) rfl
theorem q_28_8 : XX d 28 8 [some (.ref a), v1] st A Q ↔ XX d 28 9 [some (.ref a), v1] (.ref a :: st) A Q := c_lcl i_28_8 rfl rfl
theorem q_28_9 : XX d 28 9 [v0, some (.int x)] st A Q ↔ XX d 28 10 [v0, some (.int x)] (.int x :: st) A Q := c_lcl i_28_9 rfl rfl
theorem q_28_10 : XX (d + 1) 28 10 [v0, v1] [.int x1, .ref a0, .ref a2] (mk S I L R G) Q ↔ S a0 = some (.inr 4) ∧ XC d 27 [.ref a0, .int x1] (mk S I L R G) (XK (d + 1) 28 10 [v0, v1] [.ref a2] Q) := c_callV i_28_10 rfl rfl rfl rfl (Nat.le_of_ble_eq_true rfl) (Nat.le_of_ble_eq_true rfl) rfl
theorem q_28_13 : XX d 28 13 [v0, v1] (.int x :: .ref a :: st) (mk S I L R G) Q ↔ inA (S a) ok_i x ∧ XX d 28 14 [v0, v1] (.int (I a (ix x)) :: st) (mk S I L R G) Q := r_ia i_28_13
theorem q_28_14 : XX d 28 14 [v0, some (.int x)] st A Q ↔ XX d 28 15 [v0, some (.int x)] (.int x :: st) A Q := c_lcl i_28_14 rfl rfl
theorem q_28_15 : XX d 28 15 [v0, v1] (.int y :: .int x :: st) A Q ↔ if x = y then XX d 28 18 [v0, v1] st A Q else XX d 28 22 [v0, v1] st A Q := b_ne i_28_15 rfl rfl rfl
theorem q_28_18 : XX d 28 18 [v0, v1] st A Q ↔ XX d 28 19 [v0, v1] (.int (w 1) :: st) A Q := c_stk i_28_18 rfl
theorem q_28_19 : XX d 28 19 [v0, v1] st A Q ↔ XX d 28 23 [v0, v1] st A Q := c_go i_28_19 rfl rfl
theorem q_28_22 : XX d 28 22 [v0, v1] st A Q ↔ XX d 28 23 [v0, v1] (.int (w 0) :: st) A Q := c_stk i_28_22 rfl
theorem q_28_23 : XX d 28 23 [v0, v1] [.int x] A Q ↔ (x = w 0 ∨ x = w 1) ∧ Q (.inl (some (.int x))) A := e_retZ i_28_23 rfl
theorem q_28_e : XC d 28 [.ref a0, .int x1] A Q ↔ XX d 28 0 [some (.ref a0), some (.int x1)] [] A Q := Iff.rfl
theorem i_29_0 : t_ins 29 0 = some (.aload_n 0) := by decide +kernel
theorem i_29_1 : t_ins 29 1 = some (.iload_n 1) := by decide +kernel
theorem i_29_2 : t_ins 29 2 = some (.invokevirtual 38) := by decide +kernel
theorem i_29_5 : t_ins 29 5 = some (.istore_n 2) := by decide +kernel
theorem i_29_6 : t_ins 29 6 = some (.iload_n 1) := by decide +kernel
theorem i_29_7 : t_ins 29 7 = some (.ifCond .lt 27) := by decide +kernel
theorem i_29_10 : t_ins 29 10 = some (.aload_n 0) := by decide +kernel
theorem i_29_11 : t_ins 29 11 = some (.getfield 16) := by decide +kernel
theorem i_29_14 : t_ins 29 14 = some (.iload_n 2) := by decide +kernel
theorem i_29_15 : t_ins 29 15 = some (.iaload) := by decide +kernel
theorem i_29_16 : t_ins 29 16 = some (.iload_n 1) := by decide +kernel
theorem i_29_17 : t_ins 29 17 = some (.if_icmp .ne 17) := by decide +kernel
theorem i_29_20 : t_ins 29 20 = some (.aload_n 0) := by decide +kernel
theorem i_29_21 : t_ins 29 21 = some (.getfield 20) := by decide +kernel
theorem i_29_24 : t_ins 29 24 = some (.iload_n 2) := by decide +kernel
theorem i_29_25 : t_ins 29 25 = some (.iaload) := by decide +kernel
theorem i_29_26 : t_ins 29 26 = some (.iconst (-1)) := by decide +kernel
theorem i_29_27 : t_ins 29 27 = some (.if_icmp .ne 7) := by decide +kernel
theorem i_29_30 : t_ins 29 30 = some (.iconst 1) := by decide +kernel
theorem i_29_31 : t_ins 29 31 = some (.goto 4) := by decide +kernel
theorem i_29_34 : t_ins 29 34 = some (.iconst 0) := by decide +kernel
theorem i_29_35 : t_ins 29 35 = some (.ireturn) := by decide +kernel
theorem q_29_0 : XX d 29 0 [some (.ref a), v1, v2] st A Q ↔ XX d 29 1 [some (.ref a), v1, v2] (.ref a :: st) A Q := c_lcl i_29_0 rfl rfl
theorem q_29_1 : XX d 29 1 [v0, some (.int x), v2] st A Q ↔ XX d 29 2 [v0, some (.int x), v2] (.int x :: st) A Q := c_lcl i_29_1 rfl rfl
theorem q_29_2 : XX (d + 1) 29 2 [v0, v1, v2] [.int x1, .ref a0] (mk S I L R G) Q ↔ S a0 = some (.inr 4) ∧ XC d 27 [.ref a0, .int x1] (mk S I L R G) (XK (d + 1) 29 2 [v0, v1, v2] [] Q) := c_callV i_29_2 rfl rfl rfl rfl (Nat.le_of_ble_eq_true rfl) (Nat.le_of_ble_eq_true rfl) rfl
theorem q_29_5 : XX d 29 5 [v0, some (.int z), v2] (.int x :: st) A Q ↔ XX d 29 6 [v0, some (.int z), some (.int x)] st A Q := c_lcl i_29_5 rfl rfl
theorem q_29_6 : XX d 29 6 [v0, some (.int x), v2] st A Q ↔ XX d 29 7 [v0, some (.int x), v2] (.int x :: st) A Q := c_lcl i_29_6 rfl rfl
theorem q_29_7 : XX d 29 7 [v0, v1, v2] (.int x :: st) A Q ↔ if x < w 0 then XX d 29 34 [v0, v1, v2] st A Q else XX d 29 10 [v0, v1, v2] st A Q := z_lt i_29_7 rfl rfl rfl
theorem q_29_10 : XX d 29 10 [some (.ref a), v1, v2] st A Q ↔ XX d 29 11 [some (.ref a), v1, v2] (.ref a :: st) A Q := c_lcl i_29_10 rfl rfl
theorem q_29_11 : XX d 29 11 [v0, v1, v2] (.ref a :: st) (mk S I L R G) Q ↔ S a = some (.inr 4) ∧ XX d 29 14 [v0, v1, v2] (.ref (a + 2) :: st) (mk S I L R G) Q := r_gf i_29_11 rfl (by decide) rfl
theorem q_29_14 : XX d 29 14 [v0, v1, some (.int x)] st A Q ↔ XX d 29 15 [v0, v1, some (.int x)] (.int x :: st) A Q := c_lcl i_29_14 rfl rfl
theorem q_29_15 : XX d 29 15 [v0, v1, v2] (.int x :: .ref a :: st) (mk S I L R G) Q ↔ inA (S a) ok_i x ∧ XX d 29 16 [v0, v1, v2] (.int (I a (ix x)) :: st) (mk S I L R G) Q := r_ia i_29_15
theorem q_29_16 : XX d 29 16 [v0, some (.int x), v2] st A Q ↔ XX d 29 17 [v0, some (.int x), v2] (.int x :: st) A Q := c_lcl i_29_16 rfl rfl
theorem q_29_17 : XX d 29 17 [v0, v1, v2] (.int y :: .int x :: st) A Q ↔ if x = y then XX d 29 20 [v0, v1, v2] st A Q else XX d 29 34 [v0, v1, v2] st A Q := b_ne i_29_17 rfl rfl rfl
theorem q_29_20 : XX d 29 20 [some (.ref a), v1, v2] st A Q ↔ XX d 29 21 [some (.ref a), v1, v2] (.ref a :: st) A Q := c_lcl i_29_20 rfl rfl
theorem q_29_21 : XX d 29 21 [v0, v1, v2] (.ref a :: st) (mk S I L R G) Q ↔ S a = some (.inr 4) ∧ XX d 29 24 [v0, v1, v2] (.ref (a + 3) :: st) (mk S I L R G) Q := r_gf i_29_21 rfl (by decide) rfl
theorem q_29_24 : XX d 29 24 [v0, v1, some (.int x)] st A Q ↔ XX d 29 25 [v0, v1, some (.int x)] (.int x :: st) A Q := c_lcl i_29_24 rfl rfl
theorem q_29_25 : XX d 29 25 [v0, v1, v2] (.int x :: .ref a :: st) (mk S I L R G) Q ↔ inA (S a) ok_i x ∧ XX d 29 26 [v0, v1, v2] (.int (I a (ix x)) :: st) (mk S I L R G) Q := r_ia i_29_25
theorem q_29_26 : XX d 29 26 [v0, v1, v2] st A Q ↔ XX d 29 27 [v0, v1, v2] (.int (w (-1)) :: st) A Q := c_stk i_29_26 rfl
theorem q_29_27 : XX d 29 27 [v0, v1, v2] (.int y :: .int x :: st) A Q ↔ if x = y then XX d 29 30 [v0, v1, v2] st A Q else XX d 29 34 [v0, v1, v2] st A Q := b_ne i_29_27 rfl rfl rfl
theorem q_29_30 : XX d 29 30 [v0, v1, v2] st A Q ↔ XX d 29 31 [v0, v1, v2] (.int (w 1) :: st) A Q := c_stk i_29_30 rfl
theorem q_29_31 : XX d 29 31 [v0, v1, v2] st A Q ↔ XX d 29 35 [v0, v1, v2] st A Q := c_go i_29_31 rfl rfl
theorem q_29_34 : XX d 29 34 [v0, v1, v2] st A Q ↔ XX d 29 35 [v0, v1, v2] (.int (w 0) :: st) A Q := c_stk i_29_34 rfl
theorem q_29_35 : XX d 29 35 [v0, v1, v2] [.int x] A Q ↔ (x = w 0 ∨ x = w 1) ∧ Q (.inl (some (.int x))) A := e_retZ i_29_35 rfl
theorem q_29_e : XC d 29 [.ref a0, .int x1] A Q ↔ XX d 29 0 [some (.ref a0), some (.int x1), none] [] A Q := Iff.rfl
theorem i_30_0 : t_ins 30 0 = some (.aload_n 0) := by decide +kernel
theorem i_30_1 : t_ins 30 1 = some (.iload_n 1) := by decide +kernel
theorem i_30_2 : t_ins 30 2 = some (.invokevirtual 38) := by decide +kernel
theorem i_30_5 : t_ins 30 5 = some (.istore_n 2) := by decide +kernel
theorem i_30_6 : t_ins 30 6 = some (.iload_n 1) := by decide +kernel
theorem i_30_7 : t_ins 30 7 = some (.ifCond .lt 27) := by decide +kernel
theorem i_30_10 : t_ins 30 10 = some (.aload_n 0) := by decide +kernel
theorem i_30_11 : t_ins 30 11 = some (.getfield 16) := by decide +kernel
theorem i_30_14 : t_ins 30 14 = some (.iload_n 2) := by decide +kernel
theorem i_30_15 : t_ins 30 15 = some (.iaload) := by decide +kernel
theorem i_30_16 : t_ins 30 16 = some (.iload_n 1) := by decide +kernel
theorem i_30_17 : t_ins 30 17 = some (.if_icmp .ne 17) := by decide +kernel
theorem i_30_20 : t_ins 30 20 = some (.aload_n 0) := by decide +kernel
theorem i_30_21 : t_ins 30 21 = some (.getfield 20) := by decide +kernel
theorem i_30_24 : t_ins 30 24 = some (.iload_n 2) := by decide +kernel
theorem i_30_25 : t_ins 30 25 = some (.iaload) := by decide +kernel
theorem i_30_26 : t_ins 30 26 = some (.iconst (-1)) := by decide +kernel
theorem i_30_27 : t_ins 30 27 = some (.if_icmp .eq 7) := by decide +kernel
theorem i_30_30 : t_ins 30 30 = some (.iconst 1) := by decide +kernel
theorem i_30_31 : t_ins 30 31 = some (.goto 4) := by decide +kernel
theorem i_30_34 : t_ins 30 34 = some (.iconst 0) := by decide +kernel
theorem i_30_35 : t_ins 30 35 = some (.ireturn) := by decide +kernel
theorem q_30_0 : XX d 30 0 [some (.ref a), v1, v2] st A Q ↔ XX d 30 1 [some (.ref a), v1, v2] (.ref a :: st) A Q := c_lcl i_30_0 rfl rfl
theorem q_30_1 : XX d 30 1 [v0, some (.int x), v2] st A Q ↔ XX d 30 2 [v0, some (.int x), v2] (.int x :: st) A Q := c_lcl i_30_1 rfl rfl
theorem q_30_2 : XX (d + 1) 30 2 [v0, v1, v2] [.int x1, .ref a0] (mk S I L R G) Q ↔ S a0 = some (.inr 4) ∧ XC d 27 [.ref a0, .int x1] (mk S I L R G) (XK (d + 1) 30 2 [v0, v1, v2] [] Q) := c_callV i_30_2 rfl rfl rfl rfl (Nat.le_of_ble_eq_true rfl) (Nat.le_of_ble_eq_true rfl) rfl
theorem q_30_5 : XX d 30 5 [v0, some (.int z), v2] (.int x :: st) A Q ↔ XX d 30 6 [v0, some (.int z), some (.int x)] st A Q := c_lcl i_30_5 rfl rfl
theorem q_30_6 : XX d 30 6 [v0, some (.int x), v2] st A Q ↔ XX d 30 7 [v0, some (.int x), v2] (.int x :: st) A Q := c_lcl i_30_6 rfl rfl
theorem q_30_7 : XX d 30 7 [v0, v1, v2] (.int x :: st) A Q ↔ if x < w 0 then XX d 30 34 [v0, v1, v2] st A Q else XX d 30 10 [v0, v1, v2] st A Q := z_lt i_30_7 rfl rfl rfl
theorem q_30_10 : XX d 30 10 [some (.ref a), v1, v2] st A Q ↔ XX d 30 11 [some (.ref a), v1, v2] (.ref a :: st) A Q := c_lcl i_30_10 rfl rfl
theorem q_30_11 : XX d 30 11 [v0, v1, v2] (.ref a :: st) (mk S I L R G) Q ↔ S a = some (.inr 4) ∧ XX d 30 14 [v0, v1, v2] (.ref (a + 2) :: st) (mk S I L R G) Q := r_gf i_30_11 rfl (by decide) rfl
theorem q_30_14 : XX d 30 14 [v0, v1, some (.int x)] st A Q ↔ XX d 30 15 [v0, v1, some (.int x)] (.int x :: st) A Q := c_lcl i_30_14 rfl rfl
theorem q_30_15 : XX d 30 15 [v0, v1, v2] (.int x :: .ref a :: st) (mk S I L R G) Q ↔ inA (S a) ok_i x ∧ XX d 30 16 [v0, v1, v2] (.int (I a (ix x)) :: st) (mk S I L R G) Q := r_ia i_30_15
theorem q_30_16 : XX d 30 16 [v0, some (.int x), v2] st A Q ↔ XX d 30 17 [v0, some (.int x), v2] (.int x :: st) A Q := c_lcl i_30_16 rfl rfl
theorem q_30_17 : XX d 30 17 [v0, v1, v2] (.int y :: .int x :: st) A Q ↔ if x = y then XX d 30 20 [v0, v1, v2] st A Q else XX d 30 34 [v0, v1, v2] st A Q := b_ne i_30_17 rfl rfl rfl
theorem q_30_20 : XX d 30 20 [some (.ref a), v1, v2] st A Q ↔ XX d 30 21 [some (.ref a), v1, v2] (.ref a :: st) A Q := c_lcl i_30_20 rfl rfl
theorem q_30_21 : XX d 30 21 [v0, v1, v2] (.ref a :: st) (mk S I L R G) Q ↔ S a = some (.inr 4) ∧ XX d 30 24 [v0, v1, v2] (.ref (a + 3) :: st) (mk S I L R G) Q := r_gf i_30_21 rfl (by decide) rfl
theorem q_30_24 : XX d 30 24 [v0, v1, some (.int x)] st A Q ↔ XX d 30 25 [v0, v1, some (.int x)] (.int x :: st) A Q := c_lcl i_30_24 rfl rfl
theorem q_30_25 : XX d 30 25 [v0, v1, v2] (.int x :: .ref a :: st) (mk S I L R G) Q ↔ inA (S a) ok_i x ∧ XX d 30 26 [v0, v1, v2] (.int (I a (ix x)) :: st) (mk S I L R G) Q := r_ia i_30_25
theorem q_30_26 : XX d 30 26 [v0, v1, v2] st A Q ↔ XX d 30 27 [v0, v1, v2] (.int (w (-1)) :: st) A Q := c_stk i_30_26 rfl
theorem q_30_27 : XX d 30 27 [v0, v1, v2] (.int y :: .int x :: st) A Q ↔ if x = y then XX d 30 34 [v0, v1, v2] st A Q else XX d 30 30 [v0, v1, v2] st A Q := b_eq i_30_27 rfl rfl rfl
theorem q_30_30 : XX d 30 30 [v0, v1, v2] st A Q ↔ XX d 30 31 [v0, v1, v2] (.int (w 1) :: st) A Q := c_stk i_30_30 rfl
theorem q_30_31 : XX d 30 31 [v0, v1, v2] st A Q ↔ XX d 30 35 [v0, v1, v2] st A Q := c_go i_30_31 rfl rfl
theorem q_30_34 : XX d 30 34 [v0, v1, v2] st A Q ↔ XX d 30 35 [v0, v1, v2] (.int (w 0) :: st) A Q := c_stk i_30_34 rfl
theorem q_30_35 : XX d 30 35 [v0, v1, v2] [.int x] A Q ↔ (x = w 0 ∨ x = w 1) ∧ Q (.inl (some (.int x))) A := e_retZ i_30_35 rfl
theorem q_30_e : XC d 30 [.ref a0, .int x1] A Q ↔ XX d 30 0 [some (.ref a0), some (.int x1), none] [] A Q := Iff.rfl
theorem i_31_0 : t_ins 31 0 = some (.aload_n 0) := by decide +kernel
theorem i_31_1 : t_ins 31 1 = some (.iload_n 1) := by decide +kernel
theorem i_31_2 : t_ins 31 2 = some (.invokevirtual 38) := by decide +kernel
theorem i_31_5 : t_ins 31 5 = some (.bipush 100) := by decide +kernel
theorem i_31_7 : t_ins 31 7 = some (.imul) := by decide +kernel
theorem i_31_8 : t_ins 31 8 = some (.ireturn) := by decide +kernel
theorem q_31_0 : XX d 31 0 [some (.ref a), v1] st A Q ↔ XX d 31 1 [some (.ref a), v1] (.ref a :: st) A Q := c_lcl i_31_0 rfl rfl
theorem q_31_1 : XX d 31 1 [v0, some (.int x)] st A Q ↔ XX d 31 2 [v0, some (.int x)] (.int x :: st) A Q := c_lcl i_31_1 rfl rfl
theorem q_31_2 : XX (d + 1) 31 2 [v0, v1] [.int x1, .ref a0] (mk S I L R G) Q ↔ S a0 = some (.inr 4) ∧ XC d 27 [.ref a0, .int x1] (mk S I L R G) (XK (d + 1) 31 2 [v0, v1] [] Q) := c_callV i_31_2 rfl rfl rfl rfl (Nat.le_of_ble_eq_true rfl) (Nat.le_of_ble_eq_true rfl) rfl
theorem q_31_5 : XX d 31 5 [v0, v1] st A Q ↔ XX d 31 7 [v0, v1] (.int (w 100) :: st) A Q := c_stk i_31_5 rfl
theorem q_31_7 : XX d 31 7 [v0, v1] (.int y :: .int x :: st) A Q ↔ XX d 31 8 [v0, v1] (.int (x * y) :: st) A Q := c_stk i_31_7 rfl
theorem q_31_8 : XX d 31 8 [v0, v1] [.int x] A Q ↔ Q (.inl (some (.int x))) A := e_retI i_31_8 rfl
theorem q_31_e : XC d 31 [.ref a0, .int x1] A Q ↔ XX d 31 0 [some (.ref a0), some (.int x1)] [] A Q := Iff.rfl
theorem i_32_0 : t_ins 32 0 = some (.aload_n 0) := by decide +kernel
theorem i_32_1 : t_ins 32 1 = some (.iload_n 1) := by decide +kernel
theorem i_32_2 : t_ins 32 2 = some (.invokevirtual 38) := by decide +kernel
theorem i_32_5 : t_ins 32 5 = some (.istore_n 2) := by decide +kernel
theorem i_32_6 : t_ins 32 6 = some (.aload_n 0) := by decide +kernel
theorem i_32_7 : t_ins 32 7 = some (.getfield 16) := by decide +kernel
theorem i_32_10 : t_ins 32 10 = some (.iload_n 2) := by decide +kernel
theorem i_32_11 : t_ins 32 11 = some (.iaload) := by decide +kernel
theorem i_32_12 : t_ins 32 12 = some (.iload_n 1) := by decide +kernel
theorem i_32_13 : t_ins 32 13 = some (.if_icmp .ne 26) := by decide +kernel
theorem i_32_16 : t_ins 32 16 = some (.aload_n 0) := by decide +kernel
theorem i_32_17 : t_ins 32 17 = some (.getfield 20) := by decide +kernel
theorem i_32_20 : t_ins 32 20 = some (.iload_n 2) := by decide +kernel
theorem i_32_21 : t_ins 32 21 = some (.iaload) := by decide +kernel
theorem i_32_22 : t_ins 32 22 = some (.ifCond .le 17) := by decide +kernel
theorem i_32_25 : t_ins 32 25 = some (.aload_n 0) := by decide +kernel
theorem i_32_26 : t_ins 32 26 = some (.getfield 20) := by decide +kernel
theorem i_32_29 : t_ins 32 29 = some (.iload_n 2) := by decide +kernel
theorem i_32_30 : t_ins 32 30 = some (.iaload) := by decide +kernel
theorem i_32_31 : t_ins 32 31 = some (.bipush 100) := by decide +kernel
theorem i_32_33 : t_ins 32 33 = some (.invokestatic 42) := by decide +kernel
theorem i_32_36 : t_ins 32 36 = some (.goto 4) := by decide +kernel
theorem i_32_39 : t_ins 32 39 = some (.iconst 0) := by decide +kernel
theorem i_32_40 : t_ins 32 40 = some (.ireturn) := by decide +kernel
theorem q_32_0 : XX d 32 0 [some (.ref a), v1, v2] st A Q ↔ XX d 32 1 [some (.ref a), v1, v2] (.ref a :: st) A Q := c_lcl i_32_0 rfl rfl
theorem q_32_1 : XX d 32 1 [v0, some (.int x), v2] st A Q ↔ XX d 32 2 [v0, some (.int x), v2] (.int x :: st) A Q := c_lcl i_32_1 rfl rfl
theorem q_32_2 : XX (d + 1) 32 2 [v0, v1, v2] [.int x1, .ref a0] (mk S I L R G) Q ↔ S a0 = some (.inr 4) ∧ XC d 27 [.ref a0, .int x1] (mk S I L R G) (XK (d + 1) 32 2 [v0, v1, v2] [] Q) := c_callV i_32_2 rfl rfl rfl rfl (Nat.le_of_ble_eq_true rfl) (Nat.le_of_ble_eq_true rfl) rfl
theorem q_32_5 : XX d 32 5 [v0, some (.int z), v2] (.int x :: st) A Q ↔ XX d 32 6 [v0, some (.int z), some (.int x)] st A Q := c_lcl i_32_5 rfl rfl
theorem q_32_6 : XX d 32 6 [some (.ref a), v1, v2] st A Q ↔ XX d 32 7 [some (.ref a), v1, v2] (.ref a :: st) A Q := c_lcl i_32_6 rfl rfl
theorem q_32_7 : XX d 32 7 [v0, v1, v2] (.ref a :: st) (mk S I L R G) Q ↔ S a = some (.inr 4) ∧ XX d 32 10 [v0, v1, v2] (.ref (a + 2) :: st) (mk S I L R G) Q := r_gf i_32_7 rfl (by decide) rfl
theorem q_32_10 : XX d 32 10 [v0, v1, some (.int x)] st A Q ↔ XX d 32 11 [v0, v1, some (.int x)] (.int x :: st) A Q := c_lcl i_32_10 rfl rfl
theorem q_32_11 : XX d 32 11 [v0, v1, v2] (.int x :: .ref a :: st) (mk S I L R G) Q ↔ inA (S a) ok_i x ∧ XX d 32 12 [v0, v1, v2] (.int (I a (ix x)) :: st) (mk S I L R G) Q := r_ia i_32_11
theorem q_32_12 : XX d 32 12 [v0, some (.int x), v2] st A Q ↔ XX d 32 13 [v0, some (.int x), v2] (.int x :: st) A Q := c_lcl i_32_12 rfl rfl
theorem q_32_13 : XX d 32 13 [v0, v1, v2] (.int y :: .int x :: st) A Q ↔ if x = y then XX d 32 16 [v0, v1, v2] st A Q else XX d 32 39 [v0, v1, v2] st A Q := b_ne i_32_13 rfl rfl rfl
theorem q_32_16 : XX d 32 16 [some (.ref a), v1, v2] st A Q ↔ XX d 32 17 [some (.ref a), v1, v2] (.ref a :: st) A Q := c_lcl i_32_16 rfl rfl
theorem q_32_17 : XX d 32 17 [v0, v1, v2] (.ref a :: st) (mk S I L R G) Q ↔ S a = some (.inr 4) ∧ XX d 32 20 [v0, v1, v2] (.ref (a + 3) :: st) (mk S I L R G) Q := r_gf i_32_17 rfl (by decide) rfl
theorem q_32_20 : XX d 32 20 [v0, v1, some (.int x)] st A Q ↔ XX d 32 21 [v0, v1, some (.int x)] (.int x :: st) A Q := c_lcl i_32_20 rfl rfl
theorem q_32_21 : XX d 32 21 [v0, v1, v2] (.int x :: .ref a :: st) (mk S I L R G) Q ↔ inA (S a) ok_i x ∧ XX d 32 22 [v0, v1, v2] (.int (I a (ix x)) :: st) (mk S I L R G) Q := r_ia i_32_21
theorem q_32_22 : XX d 32 22 [v0, v1, v2] (.int x :: st) A Q ↔ if w 0 < x then XX d 32 25 [v0, v1, v2] st A Q else XX d 32 39 [v0, v1, v2] st A Q := z_le i_32_22 rfl rfl rfl
theorem q_32_25 : XX d 32 25 [some (.ref a), v1, v2] st A Q ↔ XX d 32 26 [some (.ref a), v1, v2] (.ref a :: st) A Q := c_lcl i_32_25 rfl rfl
theorem q_32_26 : XX d 32 26 [v0, v1, v2] (.ref a :: st) (mk S I L R G) Q ↔ S a = some (.inr 4) ∧ XX d 32 29 [v0, v1, v2] (.ref (a + 3) :: st) (mk S I L R G) Q := r_gf i_32_26 rfl (by decide) rfl
theorem q_32_29 : XX d 32 29 [v0, v1, some (.int x)] st A Q ↔ XX d 32 30 [v0, v1, some (.int x)] (.int x :: st) A Q := c_lcl i_32_29 rfl rfl
theorem q_32_30 : XX d 32 30 [v0, v1, v2] (.int x :: .ref a :: st) (mk S I L R G) Q ↔ inA (S a) ok_i x ∧ XX d 32 31 [v0, v1, v2] (.int (I a (ix x)) :: st) (mk S I L R G) Q := r_ia i_32_30
theorem q_32_31 : XX d 32 31 [v0, v1, v2] st A Q ↔ XX d 32 33 [v0, v1, v2] (.int (w 100) :: st) A Q := c_stk i_32_31 rfl
theorem q_32_33 : XX d 32 33 [v0, v1, v2] [.int y, .int x] A Q ↔ XX d 32 36 [v0, v1, v2] [.int (if y < x then y else x)] A Q := r_min i_32_33 rfl rfl (Nat.le_of_ble_eq_true rfl)
theorem q_32_36 : XX d 32 36 [v0, v1, v2] st A Q ↔ XX d 32 40 [v0, v1, v2] st A Q := c_go i_32_36 rfl rfl
theorem q_32_39 : XX d 32 39 [v0, v1, v2] st A Q ↔ XX d 32 40 [v0, v1, v2] (.int (w 0) :: st) A Q := c_stk i_32_39 rfl
theorem q_32_40 : XX d 32 40 [v0, v1, v2] [.int x] A Q ↔ Q (.inl (some (.int x))) A := e_retI i_32_40 rfl
theorem q_32_e : XC d 32 [.ref a0, .int x1] A Q ↔ XX d 32 0 [some (.ref a0), some (.int x1), none] [] A Q := Iff.rfl
theorem i_33_0 : t_ins 33 0 = some (.aload_n 0) := by decide +kernel
theorem i_33_1 : t_ins 33 1 = some (.getfield 23) := by decide +kernel
theorem i_33_4 : t_ins 33 4 = some (.aload_n 0) := by decide +kernel
theorem i_33_5 : t_ins 33 5 = some (.iload_n 1) := by decide +kernel
theorem i_33_6 : t_ins 33 6 = some (.invokevirtual 38) := by decide +kernel
theorem i_33_9 : t_ins 33 9 = some (.iaload) := by decide +kernel
theorem i_33_10 : t_ins 33 10 = some (.ireturn) := by decide +kernel
theorem q_33_0 : XX d 33 0 [some (.ref a), v1] st A Q ↔ XX d 33 1 [some (.ref a), v1] (.ref a :: st) A Q := c_lcl i_33_0 rfl rfl
theorem q_33_1 : XX d 33 1 [v0, v1] (.ref a :: st) (mk S I L R G) Q ↔ S a = some (.inr 4) ∧ XX d 33 4 [v0, v1] (.ref (a + 4) :: st) (mk S I L R G) Q := r_gf i_33_1 rfl (by decide) rfl
theorem q_33_4 : XX d 33 4 [some (.ref a), v1] st A Q ↔ XX d 33 5 [some (.ref a), v1] (.ref a :: st) A Q := c_lcl i_33_4 rfl rfl
theorem q_33_5 : XX d 33 5 [v0, some (.int x)] st A Q ↔ XX d 33 6 [v0, some (.int x)] (.int x :: st) A Q := c_lcl i_33_5 rfl rfl
theorem q_33_6 : XX (d + 1) 33 6 [v0, v1] [.int x1, .ref a0, .ref a2] (mk S I L R G) Q ↔ S a0 = some (.inr 4) ∧ XC d 27 [.ref a0, .int x1] (mk S I L R G) (XK (d + 1) 33 6 [v0, v1] [.ref a2] Q) := c_callV i_33_6 rfl rfl rfl rfl (Nat.le_of_ble_eq_true rfl) (Nat.le_of_ble_eq_true rfl) rfl
theorem q_33_9 : XX d 33 9 [v0, v1] (.int x :: .ref a :: st) (mk S I L R G) Q ↔ inA (S a) ok_i x ∧ XX d 33 10 [v0, v1] (.int (I a (ix x)) :: st) (mk S I L R G) Q := r_ia i_33_9
theorem q_33_10 : XX d 33 10 [v0, v1] [.int x] A Q ↔ Q (.inl (some (.int x))) A := e_retI i_33_10 rfl
theorem q_33_e : XC d 33 [.ref a0, .int x1] A Q ↔ XX d 33 0 [some (.ref a0), some (.int x1)] [] A Q := Iff.rfl
theorem i_34_0 : t_ins 34 0 = some (.iload_n 1) := by decide +kernel
theorem i_34_1 : t_ins 34 1 = some (.ifCond .lt 23) := by decide +kernel
theorem i_34_4 : t_ins 34 4 = some (.aload_n 0) := by decide +kernel
theorem i_34_5 : t_ins 34 5 = some (.iload_n 1) := by decide +kernel
theorem i_34_6 : t_ins 34 6 = some (.invokevirtual 38) := by decide +kernel
theorem i_34_9 : t_ins 34 9 = some (.istore_n 2) := by decide +kernel
theorem i_34_10 : t_ins 34 10 = some (.aload_n 0) := by decide +kernel
theorem i_34_11 : t_ins 34 11 = some (.getfield 16) := by decide +kernel
theorem i_34_14 : t_ins 34 14 = some (.iload_n 2) := by decide +kernel
theorem i_34_15 : t_ins 34 15 = some (.iload_n 1) := by decide +kernel
theorem i_34_16 : t_ins 34 16 = some (.iastore) := by decide +kernel
theorem i_34_17 : t_ins 34 17 = some (.aload_n 0) := by decide +kernel
theorem i_34_18 : t_ins 34 18 = some (.getfield 20) := by decide +kernel
theorem i_34_21 : t_ins 34 21 = some (.iload_n 2) := by decide +kernel
theorem i_34_22 : t_ins 34 22 = some (.iconst (-1)) := by decide +kernel
theorem i_34_23 : t_ins 34 23 = some (.iastore) := by decide +kernel
theorem i_34_24 : t_ins 34 24 = some (.return_) := by decide +kernel
theorem q_34_0 : XX d 34 0 [v0, some (.int x), v2] st A Q ↔ XX d 34 1 [v0, some (.int x), v2] (.int x :: st) A Q := c_lcl i_34_0 rfl rfl
theorem q_34_1 : XX d 34 1 [v0, v1, v2] (.int x :: st) A Q ↔ if x < w 0 then XX d 34 24 [v0, v1, v2] st A Q else XX d 34 4 [v0, v1, v2] st A Q := z_lt i_34_1 rfl rfl rfl
theorem q_34_4 : XX d 34 4 [some (.ref a), v1, v2] st A Q ↔ XX d 34 5 [some (.ref a), v1, v2] (.ref a :: st) A Q := c_lcl i_34_4 rfl rfl
theorem q_34_5 : XX d 34 5 [v0, some (.int x), v2] st A Q ↔ XX d 34 6 [v0, some (.int x), v2] (.int x :: st) A Q := c_lcl i_34_5 rfl rfl
theorem q_34_6 : XX (d + 1) 34 6 [v0, v1, v2] [.int x1, .ref a0] (mk S I L R G) Q ↔ S a0 = some (.inr 4) ∧ XC d 27 [.ref a0, .int x1] (mk S I L R G) (XK (d + 1) 34 6 [v0, v1, v2] [] Q) := c_callV i_34_6 rfl rfl rfl rfl (Nat.le_of_ble_eq_true rfl) (Nat.le_of_ble_eq_true rfl) rfl
theorem q_34_9 : XX d 34 9 [v0, some (.int z), v2] (.int x :: st) A Q ↔ XX d 34 10 [v0, some (.int z), some (.int x)] st A Q := c_lcl i_34_9 rfl rfl
theorem q_34_10 : XX d 34 10 [some (.ref a), v1, v2] st A Q ↔ XX d 34 11 [some (.ref a), v1, v2] (.ref a :: st) A Q := c_lcl i_34_10 rfl rfl
theorem q_34_11 : XX d 34 11 [v0, v1, v2] (.ref a :: st) (mk S I L R G) Q ↔ S a = some (.inr 4) ∧ XX d 34 14 [v0, v1, v2] (.ref (a + 2) :: st) (mk S I L R G) Q := r_gf i_34_11 rfl (by decide) rfl
theorem q_34_14 : XX d 34 14 [v0, v1, some (.int x)] st A Q ↔ XX d 34 15 [v0, v1, some (.int x)] (.int x :: st) A Q := c_lcl i_34_14 rfl rfl
theorem q_34_15 : XX d 34 15 [v0, some (.int x), v2] st A Q ↔ XX d 34 16 [v0, some (.int x), v2] (.int x :: st) A Q := c_lcl i_34_15 rfl rfl
theorem q_34_16 : XX d 34 16 [v0, v1, v2] (.int y :: .int x :: .ref a :: st) (mk S I L R G) Q ↔ inA (S a) ok_0 x ∧ XX d 34 17 [v0, v1, v2] st (mk S (wr I a (up (I a) (ix x) y)) L R G) Q := r_ias i_34_16
theorem q_34_17 : XX d 34 17 [some (.ref a), v1, v2] st A Q ↔ XX d 34 18 [some (.ref a), v1, v2] (.ref a :: st) A Q := c_lcl i_34_17 rfl rfl
theorem q_34_18 : XX d 34 18 [v0, v1, v2] (.ref a :: st) (mk S I L R G) Q ↔ S a = some (.inr 4) ∧ XX d 34 21 [v0, v1, v2] (.ref (a + 3) :: st) (mk S I L R G) Q := r_gf i_34_18 rfl (by decide) rfl
theorem q_34_21 : XX d 34 21 [v0, v1, some (.int x)] st A Q ↔ XX d 34 22 [v0, v1, some (.int x)] (.int x :: st) A Q := c_lcl i_34_21 rfl rfl
theorem q_34_22 : XX d 34 22 [v0, v1, v2] st A Q ↔ XX d 34 23 [v0, v1, v2] (.int (w (-1)) :: st) A Q := c_stk i_34_22 rfl
theorem q_34_23 : XX d 34 23 [v0, v1, v2] (.int y :: .int x :: .ref a :: st) (mk S I L R G) Q ↔ inA (S a) ok_0 x ∧ XX d 34 24 [v0, v1, v2] st (mk S (wr I a (up (I a) (ix x) y)) L R G) Q := r_ias i_34_23
theorem q_34_24 : XX d 34 24 [v0, v1, v2] [] A Q ↔ Q (.inl none) A := e_retN i_34_24 rfl
theorem q_34_e : XC d 34 [.ref a0, .int x1] A Q ↔ XX d 34 0 [some (.ref a0), some (.int x1), none] [] A Q := Iff.rfl
theorem i_35_0 : t_ins 35 0 = some (.iload_n 1) := by decide +kernel
theorem i_35_1 : t_ins 35 1 = some (.ifCond .lt 10) := by decide +kernel
theorem i_35_4 : t_ins 35 4 = some (.iload 4) := by decide +kernel
theorem i_35_6 : t_ins 35 6 = some (.bipush 100) := by decide +kernel
theorem i_35_8 : t_ins 35 8 = some (.if_icmp .le 4) := by decide +kernel
theorem i_35_11 : t_ins 35 11 = some (.return_) := by decide +kernel
theorem i_35_12 : t_ins 35 12 = some (.aload_n 0) := by decide +kernel
theorem i_35_13 : t_ins 35 13 = some (.iload_n 1) := by decide +kernel
theorem i_35_14 : t_ins 35 14 = some (.invokevirtual 38) := by decide +kernel
theorem i_35_17 : t_ins 35 17 = some (.istore 7) := by decide +kernel
theorem i_35_19 : t_ins 35 19 = some (.aload_n 2) := by decide +kernel
theorem i_35_20 : t_ins 35 20 = some (.iload_n 3) := by decide +kernel
theorem i_35_21 : t_ins 35 21 = some (.aload_n 0) := by decide +kernel
theorem i_35_22 : t_ins 35 22 = some (.getfield 12) := by decide +kernel
theorem i_35_25 : t_ins 35 25 = some (.iload 7) := by decide +kernel
theorem i_35_27 : t_ins 35 27 = some (.bipush 100) := by decide +kernel
theorem i_35_29 : t_ins 35 29 = some (.imul) := by decide +kernel
theorem i_35_30 : t_ins 35 30 = some (.iload 4) := by decide +kernel
theorem i_35_32 : t_ins 35 32 = some (.invokestatic 48) := by decide +kernel
theorem i_35_35 : t_ins 35 35 = some (.aload_n 0) := by decide +kernel
theorem i_35_36 : t_ins 35 36 = some (.getfield 16) := by decide +kernel
theorem i_35_39 : t_ins 35 39 = some (.iload 7) := by decide +kernel
theorem i_35_41 : t_ins 35 41 = some (.iload_n 1) := by decide +kernel
theorem i_35_42 : t_ins 35 42 = some (.iastore) := by decide +kernel
theorem i_35_43 : t_ins 35 43 = some (.aload_n 0) := by decide +kernel
theorem i_35_44 : t_ins 35 44 = some (.getfield 20) := by decide +kernel
theorem i_35_47 : t_ins 35 47 = some (.iload 7) := by decide +kernel
theorem i_35_49 : t_ins 35 49 = some (.iload 4) := by decide +kernel
theorem i_35_51 : t_ins 35 51 = some (.iastore) := by decide +kernel
theorem i_35_52 : t_ins 35 52 = some (.aload_n 0) := by decide +kernel
theorem i_35_53 : t_ins 35 53 = some (.getfield 23) := by decide +kernel
theorem i_35_56 : t_ins 35 56 = some (.iload 7) := by decide +kernel
theorem i_35_58 : t_ins 35 58 = some (.iload 5) := by decide +kernel
theorem i_35_60 : t_ins 35 60 = some (.iastore) := by decide +kernel
theorem i_35_61 : t_ins 35 61 = some (.aload_n 0) := by decide +kernel
theorem i_35_62 : t_ins 35 62 = some (.getfield 26) := by decide +kernel
theorem i_35_65 : t_ins 35 65 = some (.iload 7) := by decide +kernel
theorem i_35_67 : t_ins 35 67 = some (.iload 6) := by decide +kernel
theorem i_35_69 : t_ins 35 69 = some (.iastore) := by decide +kernel
theorem i_35_70 : t_ins 35 70 = some (.return_) := by decide +kernel
theorem q_35_0 : XX d 35 0 [v0, some (.int x), v2, v3, v4, v5, v6, v7] st A Q ↔ XX d 35 1 [v0, some (.int x), v2, v3, v4, v5, v6, v7] (.int x :: st) A Q := c_lcl i_35_0 rfl rfl
theorem q_35_1 : XX d 35 1 [v0, v1, v2, v3, v4, v5, v6, v7] (.int x :: st) A Q ↔ if x < w 0 then XX d 35 11 [v0, v1, v2, v3, v4, v5, v6, v7] st A Q else XX d 35 4 [v0, v1, v2, v3, v4, v5, v6, v7] st A Q := z_lt i_35_1 rfl rfl rfl
theorem q_35_4 : XX d 35 4 [v0, v1, v2, v3, some (.int x), v5, v6, v7] st A Q ↔ XX d 35 6 [v0, v1, v2, v3, some (.int x), v5, v6, v7] (.int x :: st) A Q := c_lcl i_35_4 rfl rfl
theorem q_35_6 : XX d 35 6 [v0, v1, v2, v3, v4, v5, v6, v7] st A Q ↔ XX d 35 8 [v0, v1, v2, v3, v4, v5, v6, v7] (.int (w 100) :: st) A Q := c_stk i_35_6 rfl
theorem q_35_8 : XX d 35 8 [v0, v1, v2, v3, v4, v5, v6, v7] (.int y :: .int x :: st) A Q ↔ if y < x then XX d 35 11 [v0, v1, v2, v3, v4, v5, v6, v7] st A Q else XX d 35 12 [v0, v1, v2, v3, v4, v5, v6, v7] st A Q := b_le i_35_8 rfl rfl rfl
theorem q_35_11 : XX d 35 11 [v0, v1, v2, v3, v4, v5, v6, v7] [] A Q ↔ Q (.inl none) A := e_retN i_35_11 rfl
theorem q_35_12 : XX d 35 12 [some (.ref a), v1, v2, v3, v4, v5, v6, v7] st A Q ↔ XX d 35 13 [some (.ref a), v1, v2, v3, v4, v5, v6, v7] (.ref a :: st) A Q := c_lcl i_35_12 rfl rfl
theorem q_35_13 : XX d 35 13 [v0, some (.int x), v2, v3, v4, v5, v6, v7] st A Q ↔ XX d 35 14 [v0, some (.int x), v2, v3, v4, v5, v6, v7] (.int x :: st) A Q := c_lcl i_35_13 rfl rfl
theorem q_35_14 : XX (d + 1) 35 14 [v0, v1, v2, v3, v4, v5, v6, v7] [.int x1, .ref a0] (mk S I L R G) Q ↔ S a0 = some (.inr 4) ∧ XC d 27 [.ref a0, .int x1] (mk S I L R G) (XK (d + 1) 35 14 [v0, v1, v2, v3, v4, v5, v6, v7] [] Q) := c_callV i_35_14 rfl rfl rfl rfl (Nat.le_of_ble_eq_true rfl) (Nat.le_of_ble_eq_true rfl) rfl
theorem q_35_17 : XX d 35 17 [v0, v1, v2, v3, v4, v5, some (.int z), v7] (.int x :: st) A Q ↔ XX d 35 19 [v0, v1, v2, v3, v4, v5, some (.int z), some (.int x)] st A Q := c_lcl i_35_17 rfl rfl
theorem q_35_19 : XX d 35 19 [v0, v1, some (.ref a), v3, v4, v5, v6, v7] st A Q ↔ XX d 35 20 [v0, v1, some (.ref a), v3, v4, v5, v6, v7] (.ref a :: st) A Q := c_lcl i_35_19 rfl rfl
theorem q_35_20 : XX d 35 20 [v0, v1, v2, some (.int x), v4, v5, v6, v7] st A Q ↔ XX d 35 21 [v0, v1, v2, some (.int x), v4, v5, v6, v7] (.int x :: st) A Q := c_lcl i_35_20 rfl rfl
theorem q_35_21 : XX d 35 21 [some (.ref a), v1, v2, v3, v4, v5, v6, v7] st A Q ↔ XX d 35 22 [some (.ref a), v1, v2, v3, v4, v5, v6, v7] (.ref a :: st) A Q := c_lcl i_35_21 rfl rfl
theorem q_35_22 : XX d 35 22 [v0, v1, v2, v3, v4, v5, v6, v7] (.ref a :: st) (mk S I L R G) Q ↔ S a = some (.inr 4) ∧ XX d 35 25 [v0, v1, v2, v3, v4, v5, v6, v7] (.ref (a + 1) :: st) (mk S I L R G) Q := r_gf i_35_22 rfl (by decide) rfl
theorem q_35_25 : XX d 35 25 [v0, v1, v2, v3, v4, v5, v6, some (.int x)] st A Q ↔ XX d 35 27 [v0, v1, v2, v3, v4, v5, v6, some (.int x)] (.int x :: st) A Q := c_lcl i_35_25 rfl rfl
theorem q_35_27 : XX d 35 27 [v0, v1, v2, v3, v4, v5, v6, v7] st A Q ↔ XX d 35 29 [v0, v1, v2, v3, v4, v5, v6, v7] (.int (w 100) :: st) A Q := c_stk i_35_27 rfl
theorem q_35_29 : XX d 35 29 [v0, v1, v2, v3, v4, v5, v6, v7] (.int y :: .int x :: st) A Q ↔ XX d 35 30 [v0, v1, v2, v3, v4, v5, v6, v7] (.int (x * y) :: st) A Q := c_stk i_35_29 rfl
theorem q_35_30 : XX d 35 30 [v0, v1, v2, v3, some (.int x), v5, v6, v7] st A Q ↔ XX d 35 32 [v0, v1, v2, v3, some (.int x), v5, v6, v7] (.int x :: st) A Q := c_lcl i_35_30 rfl rfl
theorem q_35_32 : XX (d + 1) 35 32 [v0, v1, v2, v3, v4, v5, v6, v7] [.int x4, .int x3, .ref a2, .int x1, .ref a0] A Q ↔ XC d 150 [.ref a0, .int x1, .ref a2, .int x3, .int x4] A (XK (d + 1) 35 32 [v0, v1, v2, v3, v4, v5, v6, v7] [] Q) := c_callS i_35_32 rfl rfl rfl rfl (Nat.le_of_ble_eq_true rfl) (Nat.le_of_ble_eq_true rfl)
theorem q_35_35 : XX d 35 35 [some (.ref a), v1, v2, v3, v4, v5, v6, v7] st A Q ↔ XX d 35 36 [some (.ref a), v1, v2, v3, v4, v5, v6, v7] (.ref a :: st) A Q := c_lcl i_35_35 rfl rfl
theorem q_35_36 : XX d 35 36 [v0, v1, v2, v3, v4, v5, v6, v7] (.ref a :: st) (mk S I L R G) Q ↔ S a = some (.inr 4) ∧ XX d 35 39 [v0, v1, v2, v3, v4, v5, v6, v7] (.ref (a + 2) :: st) (mk S I L R G) Q := r_gf i_35_36 rfl (by decide) rfl
theorem q_35_39 : XX d 35 39 [v0, v1, v2, v3, v4, v5, v6, some (.int x)] st A Q ↔ XX d 35 41 [v0, v1, v2, v3, v4, v5, v6, some (.int x)] (.int x :: st) A Q := c_lcl i_35_39 rfl rfl
theorem q_35_41 : XX d 35 41 [v0, some (.int x), v2, v3, v4, v5, v6, v7] st A Q ↔ XX d 35 42 [v0, some (.int x), v2, v3, v4, v5, v6, v7] (.int x :: st) A Q := c_lcl i_35_41 rfl rfl
theorem q_35_42 : XX d 35 42 [v0, v1, v2, v3, v4, v5, v6, v7] (.int y :: .int x :: .ref a :: st) (mk S I L R G) Q ↔ inA (S a) ok_0 x ∧ XX d 35 43 [v0, v1, v2, v3, v4, v5, v6, v7] st (mk S (wr I a (up (I a) (ix x) y)) L R G) Q := r_ias i_35_42
theorem q_35_43 : XX d 35 43 [some (.ref a), v1, v2, v3, v4, v5, v6, v7] st A Q ↔ XX d 35 44 [some (.ref a), v1, v2, v3, v4, v5, v6, v7] (.ref a :: st) A Q := c_lcl i_35_43 rfl rfl
theorem q_35_44 : XX d 35 44 [v0, v1, v2, v3, v4, v5, v6, v7] (.ref a :: st) (mk S I L R G) Q ↔ S a = some (.inr 4) ∧ XX d 35 47 [v0, v1, v2, v3, v4, v5, v6, v7] (.ref (a + 3) :: st) (mk S I L R G) Q := r_gf i_35_44 rfl (by decide) rfl
theorem q_35_47 : XX d 35 47 [v0, v1, v2, v3, v4, v5, v6, some (.int x)] st A Q ↔ XX d 35 49 [v0, v1, v2, v3, v4, v5, v6, some (.int x)] (.int x :: st) A Q := c_lcl i_35_47 rfl rfl
theorem q_35_49 : XX d 35 49 [v0, v1, v2, v3, some (.int x), v5, v6, v7] st A Q ↔ XX d 35 51 [v0, v1, v2, v3, some (.int x), v5, v6, v7] (.int x :: st) A Q := c_lcl i_35_49 rfl rfl
theorem q_35_51 : XX d 35 51 [v0, v1, v2, v3, v4, v5, v6, v7] (.int y :: .int x :: .ref a :: st) (mk S I L R G) Q ↔ inA (S a) ok_0 x ∧ XX d 35 52 [v0, v1, v2, v3, v4, v5, v6, v7] st (mk S (wr I a (up (I a) (ix x) y)) L R G) Q := r_ias i_35_51
theorem q_35_52 : XX d 35 52 [some (.ref a), v1, v2, v3, v4, v5, v6, v7] st A Q ↔ XX d 35 53 [some (.ref a), v1, v2, v3, v4, v5, v6, v7] (.ref a :: st) A Q := c_lcl i_35_52 rfl rfl
theorem q_35_53 : XX d 35 53 [v0, v1, v2, v3, v4, v5, v6, v7] (.ref a :: st) (mk S I L R G) Q ↔ S a = some (.inr 4) ∧ XX d 35 56 [v0, v1, v2, v3, v4, v5, v6, v7] (.ref (a + 4) :: st) (mk S I L R G) Q := r_gf i_35_53 rfl (by decide) rfl
theorem q_35_56 : XX d 35 56 [v0, v1, v2, v3, v4, v5, v6, some (.int x)] st A Q ↔ XX d 35 58 [v0, v1, v2, v3, v4, v5, v6, some (.int x)] (.int x :: st) A Q := c_lcl i_35_56 rfl rfl
theorem q_35_58 : XX d 35 58 [v0, v1, v2, v3, v4, some (.int x), v6, v7] st A Q ↔ XX d 35 60 [v0, v1, v2, v3, v4, some (.int x), v6, v7] (.int x :: st) A Q := c_lcl i_35_58 rfl rfl
theorem q_35_60 : XX d 35 60 [v0, v1, v2, v3, v4, v5, v6, v7] (.int y :: .int x :: .ref a :: st) (mk S I L R G) Q ↔ inA (S a) ok_0 x ∧ XX d 35 61 [v0, v1, v2, v3, v4, v5, v6, v7] st (mk S (wr I a (up (I a) (ix x) y)) L R G) Q := r_ias i_35_60
theorem q_35_61 : XX d 35 61 [some (.ref a), v1, v2, v3, v4, v5, v6, v7] st A Q ↔ XX d 35 62 [some (.ref a), v1, v2, v3, v4, v5, v6, v7] (.ref a :: st) A Q := c_lcl i_35_61 rfl rfl
theorem q_35_62 : XX d 35 62 [v0, v1, v2, v3, v4, v5, v6, v7] (.ref a :: st) (mk S I L R G) Q ↔ S a = some (.inr 4) ∧ XX d 35 65 [v0, v1, v2, v3, v4, v5, v6, v7] (.ref (a + 5) :: st) (mk S I L R G) Q := r_gf i_35_62 rfl (by decide) rfl
theorem q_35_65 : XX d 35 65 [v0, v1, v2, v3, v4, v5, v6, some (.int x)] st A Q ↔ XX d 35 67 [v0, v1, v2, v3, v4, v5, v6, some (.int x)] (.int x :: st) A Q := c_lcl i_35_65 rfl rfl
theorem q_35_67 : XX d 35 67 [v0, v1, v2, v3, v4, v5, some (.int x), v7] st A Q ↔ XX d 35 69 [v0, v1, v2, v3, v4, v5, some (.int x), v7] (.int x :: st) A Q := c_lcl i_35_67 rfl rfl
theorem q_35_69 : XX d 35 69 [v0, v1, v2, v3, v4, v5, v6, v7] (.int y :: .int x :: .ref a :: st) (mk S I L R G) Q ↔ inA (S a) ok_0 x ∧ XX d 35 70 [v0, v1, v2, v3, v4, v5, v6, v7] st (mk S (wr I a (up (I a) (ix x) y)) L R G) Q := r_ias i_35_69
theorem q_35_70 : XX d 35 70 [v0, v1, v2, v3, v4, v5, v6, v7] [] A Q ↔ Q (.inl none) A := e_retN i_35_70 rfl
theorem q_35_e : XC d 35 [.ref a0, .int x1, .ref a2, .int x3, .int x4, .int x5, .int x6] A Q ↔ XX d 35 0 [some (.ref a0), some (.int x1), some (.ref a2), some (.int x3), some (.int x4), some (.int x5), some (.int x6), none] [] A Q := Iff.rfl
theorem i_36_0 : t_ins 36 0 = some (.iload_n 2) := by decide +kernel
theorem i_36_1 : t_ins 36 1 = some (.ifCond .lt 27) := by decide +kernel
theorem i_36_4 : t_ins 36 4 = some (.iload_n 2) := by decide +kernel
theorem i_36_5 : t_ins 36 5 = some (.aload_n 0) := by decide +kernel
theorem i_36_6 : t_ins 36 6 = some (.iload_n 1) := by decide +kernel
theorem i_36_7 : t_ins 36 7 = some (.invokevirtual 52) := by decide +kernel
theorem i_36_10 : t_ins 36 10 = some (.if_icmp .ge 18) := by decide +kernel
theorem i_36_13 : t_ins 36 13 = some (.aload_n 0) := by decide +kernel
theorem i_36_14 : t_ins 36 14 = some (.getfield 12) := by decide +kernel
theorem i_36_17 : t_ins 36 17 = some (.aload_n 0) := by decide +kernel
theorem i_36_18 : t_ins 36 18 = some (.iload_n 1) := by decide +kernel
theorem i_36_19 : t_ins 36 19 = some (.invokevirtual 55) := by decide +kernel
theorem i_36_22 : t_ins 36 22 = some (.iload_n 2) := by decide +kernel
theorem i_36_23 : t_ins 36 23 = some (.iadd) := by decide +kernel
theorem i_36_24 : t_ins 36 24 = some (.baload) := by decide +kernel
theorem i_36_25 : t_ins 36 25 = some (.goto 4) := by decide +kernel
theorem i_36_28 : t_ins 36 28 = some (.iconst (-1)) := by decide +kernel
theorem i_36_29 : t_ins 36 29 = some (.ireturn) := by decide +kernel
theorem q_36_0 : XX d 36 0 [v0, v1, some (.int x)] st A Q ↔ XX d 36 1 [v0, v1, some (.int x)] (.int x :: st) A Q := c_lcl i_36_0 rfl rfl
theorem q_36_1 : XX d 36 1 [v0, v1, v2] (.int x :: st) A Q ↔ if x < w 0 then XX d 36 28 [v0, v1, v2] st A Q else XX d 36 4 [v0, v1, v2] st A Q := z_lt i_36_1 rfl rfl rfl
theorem q_36_4 : XX d 36 4 [v0, v1, some (.int x)] st A Q ↔ XX d 36 5 [v0, v1, some (.int x)] (.int x :: st) A Q := c_lcl i_36_4 rfl rfl
theorem q_36_5 : XX d 36 5 [some (.ref a), v1, v2] st A Q ↔ XX d 36 6 [some (.ref a), v1, v2] (.ref a :: st) A Q := c_lcl i_36_5 rfl rfl
theorem q_36_6 : XX d 36 6 [v0, some (.int x), v2] st A Q ↔ XX d 36 7 [v0, some (.int x), v2] (.int x :: st) A Q := c_lcl i_36_6 rfl rfl
theorem q_36_7 : XX (d + 1) 36 7 [v0, v1, v2] [.int x1, .ref a0, .int x2] (mk S I L R G) Q ↔ S a0 = some (.inr 4) ∧ XC d 32 [.ref a0, .int x1] (mk S I L R G) (XK (d + 1) 36 7 [v0, v1, v2] [.int x2] Q) := c_callV i_36_7 rfl rfl rfl rfl (Nat.le_of_ble_eq_true rfl) (Nat.le_of_ble_eq_true rfl) rfl
theorem q_36_10 : XX d 36 10 [v0, v1, v2] (.int y :: .int x :: st) A Q ↔ if x < y then XX d 36 13 [v0, v1, v2] st A Q else XX d 36 28 [v0, v1, v2] st A Q := b_ge i_36_10 rfl rfl rfl
theorem q_36_13 : XX d 36 13 [some (.ref a), v1, v2] st A Q ↔ XX d 36 14 [some (.ref a), v1, v2] (.ref a :: st) A Q := c_lcl i_36_13 rfl rfl
theorem q_36_14 : XX d 36 14 [v0, v1, v2] (.ref a :: st) (mk S I L R G) Q ↔ S a = some (.inr 4) ∧ XX d 36 17 [v0, v1, v2] (.ref (a + 1) :: st) (mk S I L R G) Q := r_gf i_36_14 rfl (by decide) rfl
theorem q_36_17 : XX d 36 17 [some (.ref a), v1, v2] st A Q ↔ XX d 36 18 [some (.ref a), v1, v2] (.ref a :: st) A Q := c_lcl i_36_17 rfl rfl
theorem q_36_18 : XX d 36 18 [v0, some (.int x), v2] st A Q ↔ XX d 36 19 [v0, some (.int x), v2] (.int x :: st) A Q := c_lcl i_36_18 rfl rfl
theorem q_36_19 : XX (d + 1) 36 19 [v0, v1, v2] [.int x1, .ref a0, .ref a2] (mk S I L R G) Q ↔ S a0 = some (.inr 4) ∧ XC d 31 [.ref a0, .int x1] (mk S I L R G) (XK (d + 1) 36 19 [v0, v1, v2] [.ref a2] Q) := c_callV i_36_19 rfl rfl rfl rfl (Nat.le_of_ble_eq_true rfl) (Nat.le_of_ble_eq_true rfl) rfl
theorem q_36_22 : XX d 36 22 [v0, v1, some (.int x)] st A Q ↔ XX d 36 23 [v0, v1, some (.int x)] (.int x :: st) A Q := c_lcl i_36_22 rfl rfl
theorem q_36_23 : XX d 36 23 [v0, v1, v2] (.int y :: .int x :: st) A Q ↔ XX d 36 24 [v0, v1, v2] (.int (x + y) :: st) A Q := c_stk i_36_23 rfl
theorem q_36_24 : XX d 36 24 [v0, v1, v2] (.int x :: .ref a :: st) (mk S I L R G) Q ↔ inA (S a) ok_b x ∧ XX d 36 25 [v0, v1, v2] (.int (I a (ix x)) :: st) (mk S I L R G) Q := r_ba i_36_24
theorem q_36_25 : XX d 36 25 [v0, v1, v2] st A Q ↔ XX d 36 29 [v0, v1, v2] st A Q := c_go i_36_25 rfl rfl
theorem q_36_28 : XX d 36 28 [v0, v1, v2] st A Q ↔ XX d 36 29 [v0, v1, v2] (.int (w (-1)) :: st) A Q := c_stk i_36_28 rfl
theorem q_36_29 : XX d 36 29 [v0, v1, v2] [.int x] A Q ↔ Q (.inl (some (.int x))) A := e_retI i_36_29 rfl
theorem q_36_e : XC d 36 [.ref a0, .int x1, .int x2] A Q ↔ XX d 36 0 [some (.ref a0), some (.int x1), some (.int x2)] [] A Q := Iff.rfl
theorem i_37_0 : t_ins 37 0 = some (.aload_n 0) := by decide +kernel
theorem i_37_1 : t_ins 37 1 = some (.iload_n 1) := by decide +kernel
theorem i_37_2 : t_ins 37 2 = some (.invokevirtual 52) := by decide +kernel
theorem i_37_5 : t_ins 37 5 = some (.istore_n 2) := by decide +kernel
theorem i_37_6 : t_ins 37 6 = some (.iload_n 2) := by decide +kernel
theorem i_37_7 : t_ins 37 7 = some (.ifCond .ne 7) := by decide +kernel
theorem i_37_10 : t_ins 37 10 = some (.iconst 0) := by decide +kernel
theorem i_37_11 : t_ins 37 11 = some (.goto 12) := by decide +kernel
theorem i_37_14 : t_ins 37 14 = some (.iload_n 2) := by decide +kernel
theorem i_37_15 : t_ins 37 15 = some (.aload_n 0) := by decide +kernel
theorem i_37_16 : t_ins 37 16 = some (.iload_n 1) := by decide +kernel
theorem i_37_17 : t_ins 37 17 = some (.invokevirtual 58) := by decide +kernel
theorem i_37_20 : t_ins 37 20 = some (.isub) := by decide +kernel
theorem i_37_21 : t_ins 37 21 = some (.iconst 1) := by decide +kernel
theorem i_37_22 : t_ins 37 22 = some (.iadd) := by decide +kernel
theorem i_37_23 : t_ins 37 23 = some (.ireturn) := by decide +kernel
theorem q_37_0 : XX d 37 0 [some (.ref a), v1, v2] st A Q ↔ XX d 37 1 [some (.ref a), v1, v2] (.ref a :: st) A Q := c_lcl i_37_0 rfl rfl
theorem q_37_1 : XX d 37 1 [v0, some (.int x), v2] st A Q ↔ XX d 37 2 [v0, some (.int x), v2] (.int x :: st) A Q := c_lcl i_37_1 rfl rfl
theorem q_37_2 : XX (d + 1) 37 2 [v0, v1, v2] [.int x1, .ref a0] (mk S I L R G) Q ↔ S a0 = some (.inr 4) ∧ XC d 32 [.ref a0, .int x1] (mk S I L R G) (XK (d + 1) 37 2 [v0, v1, v2] [] Q) := c_callV i_37_2 rfl rfl rfl rfl (Nat.le_of_ble_eq_true rfl) (Nat.le_of_ble_eq_true rfl) rfl
theorem q_37_5 : XX d 37 5 [v0, some (.int z), v2] (.int x :: st) A Q ↔ XX d 37 6 [v0, some (.int z), some (.int x)] st A Q := c_lcl i_37_5 rfl rfl
theorem q_37_6 : XX d 37 6 [v0, v1, some (.int x)] st A Q ↔ XX d 37 7 [v0, v1, some (.int x)] (.int x :: st) A Q := c_lcl i_37_6 rfl rfl
theorem q_37_7 : XX d 37 7 [v0, v1, v2] (.int x :: st) A Q ↔ if x = w 0 then XX d 37 10 [v0, v1, v2] st A Q else XX d 37 14 [v0, v1, v2] st A Q := z_ne i_37_7 rfl rfl rfl
theorem q_37_10 : XX d 37 10 [v0, v1, v2] st A Q ↔ XX d 37 11 [v0, v1, v2] (.int (w 0) :: st) A Q := c_stk i_37_10 rfl
theorem q_37_11 : XX d 37 11 [v0, v1, v2] st A Q ↔ XX d 37 23 [v0, v1, v2] st A Q := c_go i_37_11 rfl rfl
theorem q_37_14 : XX d 37 14 [v0, v1, some (.int x)] st A Q ↔ XX d 37 15 [v0, v1, some (.int x)] (.int x :: st) A Q := c_lcl i_37_14 rfl rfl
theorem q_37_15 : XX d 37 15 [some (.ref a), v1, v2] st A Q ↔ XX d 37 16 [some (.ref a), v1, v2] (.ref a :: st) A Q := c_lcl i_37_15 rfl rfl
theorem q_37_16 : XX d 37 16 [v0, some (.int x), v2] st A Q ↔ XX d 37 17 [v0, some (.int x), v2] (.int x :: st) A Q := c_lcl i_37_16 rfl rfl
theorem q_37_17 : XX (d + 1) 37 17 [v0, v1, v2] [.int x1, .ref a0, .int x2] (mk S I L R G) Q ↔ S a0 = some (.inr 4) ∧ XC d 38 [.ref a0, .int x1] (mk S I L R G) (XK (d + 1) 37 17 [v0, v1, v2] [.int x2] Q) := c_callV i_37_17 rfl rfl rfl rfl (Nat.le_of_ble_eq_true rfl) (Nat.le_of_ble_eq_true rfl) rfl
theorem q_37_20 : XX d 37 20 [v0, v1, v2] (.int y :: .int x :: st) A Q ↔ XX d 37 21 [v0, v1, v2] (.int (x - y) :: st) A Q := c_stk i_37_20 rfl
theorem q_37_21 : XX d 37 21 [v0, v1, v2] st A Q ↔ XX d 37 22 [v0, v1, v2] (.int (w 1) :: st) A Q := c_stk i_37_21 rfl
theorem q_37_22 : XX d 37 22 [v0, v1, v2] (.int y :: .int x :: st) A Q ↔ XX d 37 23 [v0, v1, v2] (.int (x + y) :: st) A Q := c_stk i_37_22 rfl
theorem q_37_23 : XX d 37 23 [v0, v1, v2] [.int x] A Q ↔ Q (.inl (some (.int x))) A := e_retI i_37_23 rfl
theorem q_37_e : XC d 37 [.ref a0, .int x1] A Q ↔ XX d 37 0 [some (.ref a0), some (.int x1), none] [] A Q := Iff.rfl
theorem i_38_0 : t_ins 38 0 = some (.aload_n 0) := by decide +kernel
theorem i_38_1 : t_ins 38 1 = some (.iload_n 1) := by decide +kernel
theorem i_38_2 : t_ins 38 2 = some (.invokevirtual 55) := by decide +kernel
theorem i_38_5 : t_ins 38 5 = some (.istore_n 2) := by decide +kernel
theorem i_38_6 : t_ins 38 6 = some (.iload_n 2) := by decide +kernel
theorem i_38_7 : t_ins 38 7 = some (.aload_n 0) := by decide +kernel
theorem i_38_8 : t_ins 38 8 = some (.iload_n 1) := by decide +kernel
theorem i_38_9 : t_ins 38 9 = some (.invokevirtual 52) := by decide +kernel
theorem i_38_12 : t_ins 38 12 = some (.iadd) := by decide +kernel
theorem i_38_13 : t_ins 38 13 = some (.istore_n 3) := by decide +kernel
theorem i_38_14 : t_ins 38 14 = some (.iconst 0) := by decide +kernel
theorem i_38_15 : t_ins 38 15 = some (.istore 4) := by decide +kernel
theorem i_38_17 : t_ins 38 17 = some (.iload_n 2) := by decide +kernel
theorem i_38_18 : t_ins 38 18 = some (.istore 5) := by decide +kernel
theorem i_38_20 : t_ins 38 20 = some (.iload 5) := by decide +kernel
theorem i_38_22 : t_ins 38 22 = some (.iload_n 3) := by decide +kernel
theorem i_38_23 : t_ins 38 23 = some (.if_icmp .ge 24) := by decide +kernel
theorem i_38_26 : t_ins 38 26 = some (.aload_n 0) := by decide +kernel
theorem i_38_27 : t_ins 38 27 = some (.getfield 12) := by decide +kernel
theorem i_38_30 : t_ins 38 30 = some (.iload 5) := by decide +kernel
theorem i_38_32 : t_ins 38 32 = some (.baload) := by decide +kernel
theorem i_38_33 : t_ins 38 33 = some (.bipush 32) := by decide +kernel
theorem i_38_35 : t_ins 38 35 = some (.if_icmp .eq 6) := by decide +kernel
theorem i_38_38 : t_ins 38 38 = some (.iinc 4 1) := by decide +kernel
theorem i_38_41 : t_ins 38 41 = some (.iinc 5 1) := by decide +kernel
theorem i_38_44 : t_ins 38 44 = some (.goto (-24)) := by decide +kernel
theorem i_38_47 : t_ins 38 47 = some (.iload 4) := by decide +kernel
theorem i_38_49 : t_ins 38 49 = some (.ireturn) := by decide +kernel
theorem q_38_0 : XX d 38 0 [some (.ref a), v1, v2, v3, v4, v5] st A Q ↔ XX d 38 1 [some (.ref a), v1, v2, v3, v4, v5] (.ref a :: st) A Q := c_lcl i_38_0 rfl rfl
theorem q_38_1 : XX d 38 1 [v0, some (.int x), v2, v3, v4, v5] st A Q ↔ XX d 38 2 [v0, some (.int x), v2, v3, v4, v5] (.int x :: st) A Q := c_lcl i_38_1 rfl rfl
theorem q_38_2 : XX (d + 1) 38 2 [v0, v1, v2, v3, v4, v5] [.int x1, .ref a0] (mk S I L R G) Q ↔ S a0 = some (.inr 4) ∧ XC d 31 [.ref a0, .int x1] (mk S I L R G) (XK (d + 1) 38 2 [v0, v1, v2, v3, v4, v5] [] Q) := c_callV i_38_2 rfl rfl rfl rfl (Nat.le_of_ble_eq_true rfl) (Nat.le_of_ble_eq_true rfl) rfl
theorem q_38_5 : XX d 38 5 [v0, some (.int z), v2, v3, v4, v5] (.int x :: st) A Q ↔ XX d 38 6 [v0, some (.int z), some (.int x), v3, v4, v5] st A Q := c_lcl i_38_5 rfl rfl
theorem q_38_6 : XX d 38 6 [v0, v1, some (.int x), v3, v4, v5] st A Q ↔ XX d 38 7 [v0, v1, some (.int x), v3, v4, v5] (.int x :: st) A Q := c_lcl i_38_6 rfl rfl
theorem q_38_7 : XX d 38 7 [some (.ref a), v1, v2, v3, v4, v5] st A Q ↔ XX d 38 8 [some (.ref a), v1, v2, v3, v4, v5] (.ref a :: st) A Q := c_lcl i_38_7 rfl rfl
theorem q_38_8 : XX d 38 8 [v0, some (.int x), v2, v3, v4, v5] st A Q ↔ XX d 38 9 [v0, some (.int x), v2, v3, v4, v5] (.int x :: st) A Q := c_lcl i_38_8 rfl rfl
theorem q_38_9 : XX (d + 1) 38 9 [v0, v1, v2, v3, v4, v5] [.int x1, .ref a0, .int x2] (mk S I L R G) Q ↔ S a0 = some (.inr 4) ∧ XC d 32 [.ref a0, .int x1] (mk S I L R G) (XK (d + 1) 38 9 [v0, v1, v2, v3, v4, v5] [.int x2] Q) := c_callV i_38_9 rfl rfl rfl rfl (Nat.le_of_ble_eq_true rfl) (Nat.le_of_ble_eq_true rfl) rfl
theorem q_38_12 : XX d 38 12 [v0, v1, v2, v3, v4, v5] (.int y :: .int x :: st) A Q ↔ XX d 38 13 [v0, v1, v2, v3, v4, v5] (.int (x + y) :: st) A Q := c_stk i_38_12 rfl
theorem q_38_13 : XX d 38 13 [v0, v1, some (.int z), v3, v4, v5] (.int x :: st) A Q ↔ XX d 38 14 [v0, v1, some (.int z), some (.int x), v4, v5] st A Q := c_lcl i_38_13 rfl rfl
theorem q_38_14 : XX d 38 14 [v0, v1, v2, v3, v4, v5] st A Q ↔ XX d 38 15 [v0, v1, v2, v3, v4, v5] (.int (w 0) :: st) A Q := c_stk i_38_14 rfl
theorem q_38_15 : XX d 38 15 [v0, v1, v2, some (.int z), v4, v5] (.int x :: st) A Q ↔ XX d 38 17 [v0, v1, v2, some (.int z), some (.int x), v5] st A Q := c_lcl i_38_15 rfl rfl
theorem q_38_17 : XX d 38 17 [v0, v1, some (.int x), v3, v4, v5] st A Q ↔ XX d 38 18 [v0, v1, some (.int x), v3, v4, v5] (.int x :: st) A Q := c_lcl i_38_17 rfl rfl
theorem q_38_18 : XX d 38 18 [v0, v1, v2, v3, some (.int z), v5] (.int x :: st) A Q ↔ XX d 38 20 [v0, v1, v2, v3, some (.int z), some (.int x)] st A Q := c_lcl i_38_18 rfl rfl
theorem q_38_20 : XX d 38 20 [v0, v1, v2, v3, v4, some (.int x)] st A Q ↔ XX d 38 22 [v0, v1, v2, v3, v4, some (.int x)] (.int x :: st) A Q := c_lcl i_38_20 rfl rfl
theorem q_38_22 : XX d 38 22 [v0, v1, v2, some (.int x), v4, v5] st A Q ↔ XX d 38 23 [v0, v1, v2, some (.int x), v4, v5] (.int x :: st) A Q := c_lcl i_38_22 rfl rfl
theorem q_38_23 : XX d 38 23 [v0, v1, v2, v3, v4, v5] (.int y :: .int x :: st) A Q ↔ if x < y then XX d 38 26 [v0, v1, v2, v3, v4, v5] st A Q else XX d 38 47 [v0, v1, v2, v3, v4, v5] st A Q := b_ge i_38_23 rfl rfl rfl
theorem q_38_26 : XX d 38 26 [some (.ref a), v1, v2, v3, v4, v5] st A Q ↔ XX d 38 27 [some (.ref a), v1, v2, v3, v4, v5] (.ref a :: st) A Q := c_lcl i_38_26 rfl rfl
theorem q_38_27 : XX d 38 27 [v0, v1, v2, v3, v4, v5] (.ref a :: st) (mk S I L R G) Q ↔ S a = some (.inr 4) ∧ XX d 38 30 [v0, v1, v2, v3, v4, v5] (.ref (a + 1) :: st) (mk S I L R G) Q := r_gf i_38_27 rfl (by decide) rfl
theorem q_38_30 : XX d 38 30 [v0, v1, v2, v3, v4, some (.int x)] st A Q ↔ XX d 38 32 [v0, v1, v2, v3, v4, some (.int x)] (.int x :: st) A Q := c_lcl i_38_30 rfl rfl
theorem q_38_32 : XX d 38 32 [v0, v1, v2, v3, v4, v5] (.int x :: .ref a :: st) (mk S I L R G) Q ↔ inA (S a) ok_b x ∧ XX d 38 33 [v0, v1, v2, v3, v4, v5] (.int (I a (ix x)) :: st) (mk S I L R G) Q := r_ba i_38_32
theorem q_38_33 : XX d 38 33 [v0, v1, v2, v3, v4, v5] st A Q ↔ XX d 38 35 [v0, v1, v2, v3, v4, v5] (.int (w 32) :: st) A Q := c_stk i_38_33 rfl
theorem q_38_35 : XX d 38 35 [v0, v1, v2, v3, v4, v5] (.int y :: .int x :: st) A Q ↔ if x = y then XX d 38 41 [v0, v1, v2, v3, v4, v5] st A Q else XX d 38 38 [v0, v1, v2, v3, v4, v5] st A Q := b_eq i_38_35 rfl rfl rfl
theorem q_38_38 : XX d 38 38 [v0, v1, v2, some (.int z), some (.int x), v5] st A Q ↔ XX d 38 41 [v0, v1, v2, some (.int z), some (.int (x + w 1)), v5] st A Q := c_lcl i_38_38 rfl rfl
theorem q_38_41 : XX d 38 41 [v0, v1, v2, v3, some (.int z), some (.int x)] st A Q ↔ XX d 38 44 [v0, v1, v2, v3, some (.int z), some (.int (x + w 1))] st A Q := c_lcl i_38_41 rfl rfl
theorem q_38_44 : XX d 38 44 [v0, v1, v2, v3, v4, v5] st A Q ↔ XX d 38 20 [v0, v1, v2, v3, v4, v5] st A Q := c_go i_38_44 rfl rfl
theorem q_38_47 : XX d 38 47 [v0, v1, v2, v3, some (.int x), v5] st A Q ↔ XX d 38 49 [v0, v1, v2, v3, some (.int x), v5] (.int x :: st) A Q := c_lcl i_38_47 rfl rfl
theorem q_38_49 : XX d 38 49 [v0, v1, v2, v3, v4, v5] [.int x] A Q ↔ Q (.inl (some (.int x))) A := e_retI i_38_49 rfl
theorem q_38_e : XC d 38 [.ref a0, .int x1] A Q ↔ XX d 38 0 [some (.ref a0), some (.int x1), none, none, none, none] [] A Q := Iff.rfl
theorem i_39_0 : t_ins 39 0 = some (.aload_n 0) := by decide +kernel
theorem i_39_1 : t_ins 39 1 = some (.iload_n 1) := by decide +kernel
theorem i_39_2 : t_ins 39 2 = some (.invokevirtual 55) := by decide +kernel
theorem i_39_5 : t_ins 39 5 = some (.istore_n 2) := by decide +kernel
theorem i_39_6 : t_ins 39 6 = some (.iload_n 2) := by decide +kernel
theorem i_39_7 : t_ins 39 7 = some (.aload_n 0) := by decide +kernel
theorem i_39_8 : t_ins 39 8 = some (.iload_n 1) := by decide +kernel
theorem i_39_9 : t_ins 39 9 = some (.invokevirtual 52) := by decide +kernel
theorem i_39_12 : t_ins 39 12 = some (.iadd) := by decide +kernel
theorem i_39_13 : t_ins 39 13 = some (.istore_n 3) := by decide +kernel
theorem i_39_14 : t_ins 39 14 = some (.iconst 0) := by decide +kernel
theorem i_39_15 : t_ins 39 15 = some (.istore 4) := by decide +kernel
theorem i_39_17 : t_ins 39 17 = some (.iload_n 2) := by decide +kernel
theorem i_39_18 : t_ins 39 18 = some (.istore 5) := by decide +kernel
theorem i_39_20 : t_ins 39 20 = some (.iload 5) := by decide +kernel
theorem i_39_22 : t_ins 39 22 = some (.iload_n 3) := by decide +kernel
theorem i_39_23 : t_ins 39 23 = some (.if_icmp .ge 21) := by decide +kernel
theorem i_39_26 : t_ins 39 26 = some (.iload 4) := by decide +kernel
theorem i_39_28 : t_ins 39 28 = some (.aload_n 0) := by decide +kernel
theorem i_39_29 : t_ins 39 29 = some (.getfield 12) := by decide +kernel
theorem i_39_32 : t_ins 39 32 = some (.iload 5) := by decide +kernel
theorem i_39_34 : t_ins 39 34 = some (.baload) := by decide +kernel
theorem i_39_35 : t_ins 39 35 = some (.iadd) := by decide +kernel
theorem i_39_36 : t_ins 39 36 = some (.istore 4) := by decide +kernel
theorem i_39_38 : t_ins 39 38 = some (.iinc 5 1) := by decide +kernel
theorem i_39_41 : t_ins 39 41 = some (.goto (-21)) := by decide +kernel
theorem i_39_44 : t_ins 39 44 = some (.iload 4) := by decide +kernel
theorem i_39_46 : t_ins 39 46 = some (.ireturn) := by decide +kernel
theorem q_39_0 : XX d 39 0 [some (.ref a), v1, v2, v3, v4, v5] st A Q ↔ XX d 39 1 [some (.ref a), v1, v2, v3, v4, v5] (.ref a :: st) A Q := c_lcl i_39_0 rfl rfl
theorem q_39_1 : XX d 39 1 [v0, some (.int x), v2, v3, v4, v5] st A Q ↔ XX d 39 2 [v0, some (.int x), v2, v3, v4, v5] (.int x :: st) A Q := c_lcl i_39_1 rfl rfl
theorem q_39_2 : XX (d + 1) 39 2 [v0, v1, v2, v3, v4, v5] [.int x1, .ref a0] (mk S I L R G) Q ↔ S a0 = some (.inr 4) ∧ XC d 31 [.ref a0, .int x1] (mk S I L R G) (XK (d + 1) 39 2 [v0, v1, v2, v3, v4, v5] [] Q) := c_callV i_39_2 rfl rfl rfl rfl (Nat.le_of_ble_eq_true rfl) (Nat.le_of_ble_eq_true rfl) rfl
theorem q_39_5 : XX d 39 5 [v0, some (.int z), v2, v3, v4, v5] (.int x :: st) A Q ↔ XX d 39 6 [v0, some (.int z), some (.int x), v3, v4, v5] st A Q := c_lcl i_39_5 rfl rfl
theorem q_39_6 : XX d 39 6 [v0, v1, some (.int x), v3, v4, v5] st A Q ↔ XX d 39 7 [v0, v1, some (.int x), v3, v4, v5] (.int x :: st) A Q := c_lcl i_39_6 rfl rfl
theorem q_39_7 : XX d 39 7 [some (.ref a), v1, v2, v3, v4, v5] st A Q ↔ XX d 39 8 [some (.ref a), v1, v2, v3, v4, v5] (.ref a :: st) A Q := c_lcl i_39_7 rfl rfl
theorem q_39_8 : XX d 39 8 [v0, some (.int x), v2, v3, v4, v5] st A Q ↔ XX d 39 9 [v0, some (.int x), v2, v3, v4, v5] (.int x :: st) A Q := c_lcl i_39_8 rfl rfl
theorem q_39_9 : XX (d + 1) 39 9 [v0, v1, v2, v3, v4, v5] [.int x1, .ref a0, .int x2] (mk S I L R G) Q ↔ S a0 = some (.inr 4) ∧ XC d 32 [.ref a0, .int x1] (mk S I L R G) (XK (d + 1) 39 9 [v0, v1, v2, v3, v4, v5] [.int x2] Q) := c_callV i_39_9 rfl rfl rfl rfl (Nat.le_of_ble_eq_true rfl) (Nat.le_of_ble_eq_true rfl) rfl
theorem q_39_12 : XX d 39 12 [v0, v1, v2, v3, v4, v5] (.int y :: .int x :: st) A Q ↔ XX d 39 13 [v0, v1, v2, v3, v4, v5] (.int (x + y) :: st) A Q := c_stk i_39_12 rfl
theorem q_39_13 : XX d 39 13 [v0, v1, some (.int z), v3, v4, v5] (.int x :: st) A Q ↔ XX d 39 14 [v0, v1, some (.int z), some (.int x), v4, v5] st A Q := c_lcl i_39_13 rfl rfl
theorem q_39_14 : XX d 39 14 [v0, v1, v2, v3, v4, v5] st A Q ↔ XX d 39 15 [v0, v1, v2, v3, v4, v5] (.int (w 0) :: st) A Q := c_stk i_39_14 rfl
theorem q_39_15 : XX d 39 15 [v0, v1, v2, some (.int z), v4, v5] (.int x :: st) A Q ↔ XX d 39 17 [v0, v1, v2, some (.int z), some (.int x), v5] st A Q := c_lcl i_39_15 rfl rfl
theorem q_39_17 : XX d 39 17 [v0, v1, some (.int x), v3, v4, v5] st A Q ↔ XX d 39 18 [v0, v1, some (.int x), v3, v4, v5] (.int x :: st) A Q := c_lcl i_39_17 rfl rfl
theorem q_39_18 : XX d 39 18 [v0, v1, v2, v3, some (.int z), v5] (.int x :: st) A Q ↔ XX d 39 20 [v0, v1, v2, v3, some (.int z), some (.int x)] st A Q := c_lcl i_39_18 rfl rfl
theorem q_39_20 : XX d 39 20 [v0, v1, v2, v3, v4, some (.int x)] st A Q ↔ XX d 39 22 [v0, v1, v2, v3, v4, some (.int x)] (.int x :: st) A Q := c_lcl i_39_20 rfl rfl
theorem q_39_22 : XX d 39 22 [v0, v1, v2, some (.int x), v4, v5] st A Q ↔ XX d 39 23 [v0, v1, v2, some (.int x), v4, v5] (.int x :: st) A Q := c_lcl i_39_22 rfl rfl
theorem q_39_23 : XX d 39 23 [v0, v1, v2, v3, v4, v5] (.int y :: .int x :: st) A Q ↔ if x < y then XX d 39 26 [v0, v1, v2, v3, v4, v5] st A Q else XX d 39 44 [v0, v1, v2, v3, v4, v5] st A Q := b_ge i_39_23 rfl rfl rfl
theorem q_39_26 : XX d 39 26 [v0, v1, v2, v3, some (.int x), v5] st A Q ↔ XX d 39 28 [v0, v1, v2, v3, some (.int x), v5] (.int x :: st) A Q := c_lcl i_39_26 rfl rfl
theorem q_39_28 : XX d 39 28 [some (.ref a), v1, v2, v3, v4, v5] st A Q ↔ XX d 39 29 [some (.ref a), v1, v2, v3, v4, v5] (.ref a :: st) A Q := c_lcl i_39_28 rfl rfl
theorem q_39_29 : XX d 39 29 [v0, v1, v2, v3, v4, v5] (.ref a :: st) (mk S I L R G) Q ↔ S a = some (.inr 4) ∧ XX d 39 32 [v0, v1, v2, v3, v4, v5] (.ref (a + 1) :: st) (mk S I L R G) Q := r_gf i_39_29 rfl (by decide) rfl
theorem q_39_32 : XX d 39 32 [v0, v1, v2, v3, v4, some (.int x)] st A Q ↔ XX d 39 34 [v0, v1, v2, v3, v4, some (.int x)] (.int x :: st) A Q := c_lcl i_39_32 rfl rfl
theorem q_39_34 : XX d 39 34 [v0, v1, v2, v3, v4, v5] (.int x :: .ref a :: st) (mk S I L R G) Q ↔ inA (S a) ok_b x ∧ XX d 39 35 [v0, v1, v2, v3, v4, v5] (.int (I a (ix x)) :: st) (mk S I L R G) Q := r_ba i_39_34
theorem q_39_35 : XX d 39 35 [v0, v1, v2, v3, v4, v5] (.int y :: .int x :: st) A Q ↔ XX d 39 36 [v0, v1, v2, v3, v4, v5] (.int (x + y) :: st) A Q := c_stk i_39_35 rfl
theorem q_39_36 : XX d 39 36 [v0, v1, v2, some (.int z), v4, v5] (.int x :: st) A Q ↔ XX d 39 38 [v0, v1, v2, some (.int z), some (.int x), v5] st A Q := c_lcl i_39_36 rfl rfl
theorem q_39_38 : XX d 39 38 [v0, v1, v2, v3, some (.int z), some (.int x)] st A Q ↔ XX d 39 41 [v0, v1, v2, v3, some (.int z), some (.int (x + w 1))] st A Q := c_lcl i_39_38 rfl rfl
theorem q_39_41 : XX d 39 41 [v0, v1, v2, v3, v4, v5] st A Q ↔ XX d 39 20 [v0, v1, v2, v3, v4, v5] st A Q := c_go i_39_41 rfl rfl
theorem q_39_44 : XX d 39 44 [v0, v1, v2, v3, some (.int x), v5] st A Q ↔ XX d 39 46 [v0, v1, v2, v3, some (.int x), v5] (.int x :: st) A Q := c_lcl i_39_44 rfl rfl
theorem q_39_46 : XX d 39 46 [v0, v1, v2, v3, v4, v5] [.int x] A Q ↔ Q (.inl (some (.int x))) A := e_retI i_39_46 rfl
theorem q_39_e : XC d 39 [.ref a0, .int x1] A Q ↔ XX d 39 0 [some (.ref a0), some (.int x1), none, none, none, none] [] A Q := Iff.rfl
theorem i_40_0 : t_ins 40 0 = some (.aload_n 0) := by decide +kernel
theorem i_40_1 : t_ins 40 1 = some (.getfield 12) := by decide +kernel
theorem i_40_4 : t_ins 40 4 = some (.aload_n 0) := by decide +kernel
theorem i_40_5 : t_ins 40 5 = some (.iload_n 2) := by decide +kernel
theorem i_40_6 : t_ins 40 6 = some (.invokevirtual 55) := by decide +kernel
theorem i_40_9 : t_ins 40 9 = some (.aload_n 0) := by decide +kernel
theorem i_40_10 : t_ins 40 10 = some (.iload_n 2) := by decide +kernel
theorem i_40_11 : t_ins 40 11 = some (.invokevirtual 52) := by decide +kernel
theorem i_40_14 : t_ins 40 14 = some (.aload_n 1) := by decide +kernel
theorem i_40_15 : t_ins 40 15 = some (.getfield 12) := by decide +kernel
theorem i_40_18 : t_ins 40 18 = some (.aload_n 1) := by decide +kernel
theorem i_40_19 : t_ins 40 19 = some (.iload_n 2) := by decide +kernel
theorem i_40_20 : t_ins 40 20 = some (.invokevirtual 55) := by decide +kernel
theorem i_40_23 : t_ins 40 23 = some (.aload_n 1) := by decide +kernel
theorem i_40_24 : t_ins 40 24 = some (.iload_n 2) := by decide +kernel
theorem i_40_25 : t_ins 40 25 = some (.invokevirtual 52) := by decide +kernel
theorem i_40_28 : t_ins 40 28 = some (.invokestatic 61) := by decide +kernel
theorem i_40_31 : t_ins 40 31 = some (.ifCond .ne 7) := by decide +kernel
theorem i_40_34 : t_ins 40 34 = some (.iconst 1) := by decide +kernel
theorem i_40_35 : t_ins 40 35 = some (.goto 4) := by decide +kernel
theorem i_40_38 : t_ins 40 38 = some (.iconst 0) := by decide +kernel
theorem i_40_39 : t_ins 40 39 = some (.ireturn) := by decide +kernel
theorem q_40_0 : XX d 40 0 [some (.ref a), v1, v2] st A Q ↔ XX d 40 1 [some (.ref a), v1, v2] (.ref a :: st) A Q := c_lcl i_40_0 rfl rfl
theorem q_40_1 : XX d 40 1 [v0, v1, v2] (.ref a :: st) (mk S I L R G) Q ↔ S a = some (.inr 4) ∧ XX d 40 4 [v0, v1, v2] (.ref (a + 1) :: st) (mk S I L R G) Q := r_gf i_40_1 rfl (by decide) rfl
theorem q_40_4 : XX d 40 4 [some (.ref a), v1, v2] st A Q ↔ XX d 40 5 [some (.ref a), v1, v2] (.ref a :: st) A Q := c_lcl i_40_4 rfl rfl
theorem q_40_5 : XX d 40 5 [v0, v1, some (.int x)] st A Q ↔ XX d 40 6 [v0, v1, some (.int x)] (.int x :: st) A Q := c_lcl i_40_5 rfl rfl
theorem q_40_6 : XX (d + 1) 40 6 [v0, v1, v2] [.int x1, .ref a0, .ref a2] (mk S I L R G) Q ↔ S a0 = some (.inr 4) ∧ XC d 31 [.ref a0, .int x1] (mk S I L R G) (XK (d + 1) 40 6 [v0, v1, v2] [.ref a2] Q) := c_callV i_40_6 rfl rfl rfl rfl (Nat.le_of_ble_eq_true rfl) (Nat.le_of_ble_eq_true rfl) rfl
theorem q_40_9 : XX d 40 9 [some (.ref a), v1, v2] st A Q ↔ XX d 40 10 [some (.ref a), v1, v2] (.ref a :: st) A Q := c_lcl i_40_9 rfl rfl
theorem q_40_10 : XX d 40 10 [v0, v1, some (.int x)] st A Q ↔ XX d 40 11 [v0, v1, some (.int x)] (.int x :: st) A Q := c_lcl i_40_10 rfl rfl
theorem q_40_11 : XX (d + 1) 40 11 [v0, v1, v2] [.int x1, .ref a0, .int x2, .ref a3] (mk S I L R G) Q ↔ S a0 = some (.inr 4) ∧ XC d 32 [.ref a0, .int x1] (mk S I L R G) (XK (d + 1) 40 11 [v0, v1, v2] [.int x2, .ref a3] Q) := c_callV i_40_11 rfl rfl rfl rfl (Nat.le_of_ble_eq_true rfl) (Nat.le_of_ble_eq_true rfl) rfl
theorem q_40_14 : XX d 40 14 [v0, some (.ref a), v2] st A Q ↔ XX d 40 15 [v0, some (.ref a), v2] (.ref a :: st) A Q := c_lcl i_40_14 rfl rfl
theorem q_40_15 : XX d 40 15 [v0, v1, v2] (.ref a :: st) (mk S I L R G) Q ↔ S a = some (.inr 4) ∧ XX d 40 18 [v0, v1, v2] (.ref (a + 1) :: st) (mk S I L R G) Q := r_gf i_40_15 rfl (by decide) rfl
theorem q_40_18 : XX d 40 18 [v0, some (.ref a), v2] st A Q ↔ XX d 40 19 [v0, some (.ref a), v2] (.ref a :: st) A Q := c_lcl i_40_18 rfl rfl
theorem q_40_19 : XX d 40 19 [v0, v1, some (.int x)] st A Q ↔ XX d 40 20 [v0, v1, some (.int x)] (.int x :: st) A Q := c_lcl i_40_19 rfl rfl
theorem q_40_20 : XX (d + 1) 40 20 [v0, v1, v2] [.int x1, .ref a0, .ref a2, .int x3, .int x4, .ref a5] (mk S I L R G) Q ↔ S a0 = some (.inr 4) ∧ XC d 31 [.ref a0, .int x1] (mk S I L R G) (XK (d + 1) 40 20 [v0, v1, v2] [.ref a2, .int x3, .int x4, .ref a5] Q) := c_callV i_40_20 rfl rfl rfl rfl (Nat.le_of_ble_eq_true rfl) (Nat.le_of_ble_eq_true rfl) rfl
theorem q_40_23 : XX d 40 23 [v0, some (.ref a), v2] st A Q ↔ XX d 40 24 [v0, some (.ref a), v2] (.ref a :: st) A Q := c_lcl i_40_23 rfl rfl
theorem q_40_24 : XX d 40 24 [v0, v1, some (.int x)] st A Q ↔ XX d 40 25 [v0, v1, some (.int x)] (.int x :: st) A Q := c_lcl i_40_24 rfl rfl
theorem q_40_25 : XX (d + 1) 40 25 [v0, v1, v2] [.int x1, .ref a0, .int x2, .ref a3, .int x4, .int x5, .ref a6] (mk S I L R G) Q ↔ S a0 = some (.inr 4) ∧ XC d 32 [.ref a0, .int x1] (mk S I L R G) (XK (d + 1) 40 25 [v0, v1, v2] [.int x2, .ref a3, .int x4, .int x5, .ref a6] Q) := c_callV i_40_25 rfl rfl rfl rfl (Nat.le_of_ble_eq_true rfl) (Nat.le_of_ble_eq_true rfl) rfl
theorem q_40_28 : XX (d + 1) 40 28 [v0, v1, v2] [.int x5, .int x4, .ref a3, .int x2, .int x1, .ref a0] A Q ↔ XC d 151 [.ref a0, .int x1, .int x2, .ref a3, .int x4, .int x5] A (XK (d + 1) 40 28 [v0, v1, v2] [] Q) := c_callS i_40_28 rfl rfl rfl rfl (Nat.le_of_ble_eq_true rfl) (Nat.le_of_ble_eq_true rfl)
theorem q_40_31 : XX d 40 31 [v0, v1, v2] (.int x :: st) A Q ↔ if x = w 0 then XX d 40 34 [v0, v1, v2] st A Q else XX d 40 38 [v0, v1, v2] st A Q := z_ne i_40_31 rfl rfl rfl
theorem q_40_34 : XX d 40 34 [v0, v1, v2] st A Q ↔ XX d 40 35 [v0, v1, v2] (.int (w 1) :: st) A Q := c_stk i_40_34 rfl
theorem q_40_35 : XX d 40 35 [v0, v1, v2] st A Q ↔ XX d 40 39 [v0, v1, v2] st A Q := c_go i_40_35 rfl rfl
theorem q_40_38 : XX d 40 38 [v0, v1, v2] st A Q ↔ XX d 40 39 [v0, v1, v2] (.int (w 0) :: st) A Q := c_stk i_40_38 rfl
theorem q_40_39 : XX d 40 39 [v0, v1, v2] [.int x] A Q ↔ (x = w 0 ∨ x = w 1) ∧ Q (.inl (some (.int x))) A := e_retZ i_40_39 rfl
theorem q_40_e : XC d 40 [.ref a0, .ref a1, .int x2] A Q ↔ XX d 40 0 [some (.ref a0), some (.ref a1), some (.int x2)] [] A Q := Iff.rfl
theorem i_41_0 : t_ins 41 0 = some (.aload_n 0) := by decide +kernel
theorem i_41_1 : t_ins 41 1 = some (.invokespecial 3) := by decide +kernel
theorem i_41_4 : t_ins 41 4 = some (.aload_n 0) := by decide +kernel
theorem i_41_5 : t_ins 41 5 = some (.new 9) := by decide +kernel
theorem i_41_8 : t_ins 41 8 = some (.dup) := by decide +kernel
theorem i_41_9 : t_ins 41 9 = some (.invokespecial 11) := by decide +kernel
theorem i_41_12 : t_ins 41 12 = some (.putfield 12) := by decide +kernel
theorem i_41_15 : t_ins 41 15 = some (.aload_n 0) := by decide +kernel
theorem i_41_16 : t_ins 41 16 = some (.sipush 1001) := by decide +kernel
theorem i_41_19 : t_ins 41 19 = some (.newarray .int) := by decide +kernel
theorem i_41_21 : t_ins 41 21 = some (.putfield 18) := by decide +kernel
theorem i_41_24 : t_ins 41 24 = some (.aload_n 0) := by decide +kernel
theorem i_41_25 : t_ins 41 25 = some (.sipush 1001) := by decide +kernel
theorem i_41_28 : t_ins 41 28 = some (.newarray .int) := by decide +kernel
theorem i_41_30 : t_ins 41 30 = some (.putfield 22) := by decide +kernel
theorem i_41_33 : t_ins 41 33 = some (.aload_n 0) := by decide +kernel
theorem i_41_34 : t_ins 41 34 = some (.iconst 0) := by decide +kernel
theorem i_41_35 : t_ins 41 35 = some (.putfield 25) := by decide +kernel
theorem i_41_38 : t_ins 41 38 = some (.aload_n 0) := by decide +kernel
theorem i_41_39 : t_ins 41 39 = some (.iconst (-1)) := by decide +kernel
theorem i_41_40 : t_ins 41 40 = some (.putfield 29) := by decide +kernel
theorem i_41_43 : t_ins 41 43 = some (.aload_n 0) := by decide +kernel
theorem i_41_44 : t_ins 41 44 = some (.iconst 0) := by decide +kernel
theorem i_41_45 : t_ins 41 45 = some (.putfield 32) := by decide +kernel
theorem i_41_48 : t_ins 41 48 = some (.aload_n 0) := by decide +kernel
theorem i_41_49 : t_ins 41 49 = some (.iconst 0) := by decide +kernel
theorem i_41_50 : t_ins 41 50 = some (.putfield 35) := by decide +kernel
theorem i_41_53 : t_ins 41 53 = some (.aload_n 0) := by decide +kernel
theorem i_41_54 : t_ins 41 54 = some (.iconst 0) := by decide +kernel
theorem i_41_55 : t_ins 41 55 = some (.putfield 38) := by decide +kernel
theorem i_41_58 : t_ins 41 58 = some (.aload_n 0) := by decide +kernel
theorem i_41_59 : t_ins 41 59 = some (.iconst (-1)) := by decide +kernel
theorem i_41_60 : t_ins 41 60 = some (.putfield 41) := by decide +kernel
theorem i_41_63 : t_ins 41 63 = some (.aload_n 0) := by decide +kernel
theorem i_41_64 : t_ins 41 64 = some (.iconst (-1)) := by decide +kernel
theorem i_41_65 : t_ins 41 65 = some (.putfield 44) := by decide +kernel
theorem i_41_68 : t_ins 41 68 = some (.aload_n 0) := by decide +kernel
theorem i_41_69 : t_ins 41 69 = some (.iconst 0) := by decide +kernel
theorem i_41_70 : t_ins 41 70 = some (.putfield 47) := by decide +kernel
theorem i_41_73 : t_ins 41 73 = some (.return_) := by decide +kernel
theorem q_41_0 : XX d 41 0 [some (.ref a)] st A Q ↔ XX d 41 1 [some (.ref a)] (.ref a :: st) A Q := c_lcl i_41_0 rfl rfl
theorem q_41_4 : XX d 41 4 [some (.ref a)] st A Q ↔ XX d 41 5 [some (.ref a)] (.ref a :: st) A Q := c_lcl i_41_4 rfl rfl
theorem q_41_8 : XX d 41 8 [v0] (.ref a1 :: st) A Q ↔ XX d 41 9 [v0] (.ref a1 :: .ref a1 :: st) A Q := c_stk i_41_8 rfl
theorem q_41_15 : XX d 41 15 [some (.ref a)] st A Q ↔ XX d 41 16 [some (.ref a)] (.ref a :: st) A Q := c_lcl i_41_15 rfl rfl
theorem q_41_16 : XX d 41 16 [v0] st A Q ↔ XX d 41 19 [v0] (.int (w 1001) :: st) A Q := c_stk i_41_16 rfl
theorem q_41_24 : XX d 41 24 [some (.ref a)] st A Q ↔ XX d 41 25 [some (.ref a)] (.ref a :: st) A Q := c_lcl i_41_24 rfl rfl
theorem q_41_25 : XX d 41 25 [v0] st A Q ↔ XX d 41 28 [v0] (.int (w 1001) :: st) A Q := c_stk i_41_25 rfl
theorem q_41_33 : XX d 41 33 [some (.ref a)] st A Q ↔ XX d 41 34 [some (.ref a)] (.ref a :: st) A Q := c_lcl i_41_33 rfl rfl
theorem q_41_34 : XX d 41 34 [v0] st A Q ↔ XX d 41 35 [v0] (.int (w 0) :: st) A Q := c_stk i_41_34 rfl
theorem q_41_38 : XX d 41 38 [some (.ref a)] st A Q ↔ XX d 41 39 [some (.ref a)] (.ref a :: st) A Q := c_lcl i_41_38 rfl rfl
theorem q_41_39 : XX d 41 39 [v0] st A Q ↔ XX d 41 40 [v0] (.int (w (-1)) :: st) A Q := c_stk i_41_39 rfl
theorem q_41_43 : XX d 41 43 [some (.ref a)] st A Q ↔ XX d 41 44 [some (.ref a)] (.ref a :: st) A Q := c_lcl i_41_43 rfl rfl
theorem q_41_44 : XX d 41 44 [v0] st A Q ↔ XX d 41 45 [v0] (.int (w 0) :: st) A Q := c_stk i_41_44 rfl
theorem q_41_48 : XX d 41 48 [some (.ref a)] st A Q ↔ XX d 41 49 [some (.ref a)] (.ref a :: st) A Q := c_lcl i_41_48 rfl rfl
theorem q_41_49 : XX d 41 49 [v0] st A Q ↔ XX d 41 50 [v0] (.int (w 0) :: st) A Q := c_stk i_41_49 rfl
theorem q_41_53 : XX d 41 53 [some (.ref a)] st A Q ↔ XX d 41 54 [some (.ref a)] (.ref a :: st) A Q := c_lcl i_41_53 rfl rfl
theorem q_41_54 : XX d 41 54 [v0] st A Q ↔ XX d 41 55 [v0] (.int (w 0) :: st) A Q := c_stk i_41_54 rfl
theorem q_41_58 : XX d 41 58 [some (.ref a)] st A Q ↔ XX d 41 59 [some (.ref a)] (.ref a :: st) A Q := c_lcl i_41_58 rfl rfl
theorem q_41_59 : XX d 41 59 [v0] st A Q ↔ XX d 41 60 [v0] (.int (w (-1)) :: st) A Q := c_stk i_41_59 rfl
theorem q_41_63 : XX d 41 63 [some (.ref a)] st A Q ↔ XX d 41 64 [some (.ref a)] (.ref a :: st) A Q := c_lcl i_41_63 rfl rfl
theorem q_41_64 : XX d 41 64 [v0] st A Q ↔ XX d 41 65 [v0] (.int (w (-1)) :: st) A Q := c_stk i_41_64 rfl
theorem q_41_68 : XX d 41 68 [some (.ref a)] st A Q ↔ XX d 41 69 [some (.ref a)] (.ref a :: st) A Q := c_lcl i_41_68 rfl rfl
theorem q_41_69 : XX d 41 69 [v0] st A Q ↔ XX d 41 70 [v0] (.int (w 0) :: st) A Q := c_stk i_41_69 rfl
theorem q_41_73 : XX d 41 73 [v0] [] A Q ↔ Q (.inl none) A := e_retN i_41_73 rfl
theorem q_41_e : XC d 41 [.ref a0] A Q ↔ XX d 41 0 [some (.ref a0)] [] A Q := Iff.rfl
theorem i_42_0 : t_ins 42 0 = some (.aload_n 0) := by decide +kernel
theorem i_42_1 : t_ins 42 1 = some (.iconst (-1)) := by decide +kernel
theorem i_42_2 : t_ins 42 2 = some (.putfield 29) := by decide +kernel
theorem i_42_5 : t_ins 42 5 = some (.return_) := by decide +kernel
theorem q_42_0 : XX d 42 0 [some (.ref a)] st A Q ↔ XX d 42 1 [some (.ref a)] (.ref a :: st) A Q := c_lcl i_42_0 rfl rfl
theorem q_42_1 : XX d 42 1 [v0] st A Q ↔ XX d 42 2 [v0] (.int (w (-1)) :: st) A Q := c_stk i_42_1 rfl
theorem q_42_2 : XX d 42 2 [v0] (.int x :: .ref a :: st) (mk S I L R G) Q ↔ S a = some (.inr 5) ∧ XX d 42 5 [v0] st (mk S (wr I a (up (I a) 4 x)) L R G) Q := r_pf i_42_2 rfl (by decide) rfl rfl rfl
theorem q_42_5 : XX d 42 5 [v0] [] A Q ↔ Q (.inl none) A := e_retN i_42_5 rfl
theorem q_42_e : XC d 42 [.ref a0] A Q ↔ XX d 42 0 [some (.ref a0)] [] A Q := Iff.rfl
theorem i_43_0 : t_ins 43 0 = some (.aload_n 0) := by decide +kernel
theorem i_43_1 : t_ins 43 1 = some (.getfield 29) := by decide +kernel
theorem i_43_4 : t_ins 43 4 = some (.iload_n 1) := by decide +kernel
theorem i_43_5 : t_ins 43 5 = some (.if_icmp .eq 71) := by decide +kernel
theorem i_43_8 : t_ins 43 8 = some (.aload_n 0) := by decide +kernel
theorem i_43_9 : t_ins 43 9 = some (.iconst 0) := by decide +kernel
theorem i_43_10 : t_ins 43 10 = some (.putfield 25) := by decide +kernel
theorem i_43_13 : t_ins 43 13 = some (.iconst 0) := by decide +kernel
theorem i_43_14 : t_ins 43 14 = some (.istore_n 2) := by decide +kernel
theorem i_43_15 : t_ins 43 15 = some (.iload_n 2) := by decide +kernel
theorem i_43_16 : t_ins 43 16 = some (.iload_n 1) := by decide +kernel
theorem i_43_17 : t_ins 43 17 = some (.if_icmp .gt 50) := by decide +kernel
theorem i_43_20 : t_ins 43 20 = some (.aload_n 0) := by decide +kernel
theorem i_43_21 : t_ins 43 21 = some (.getfield 25) := by decide +kernel
theorem i_43_24 : t_ins 43 24 = some (.sipush 1000) := by decide +kernel
theorem i_43_27 : t_ins 43 27 = some (.if_icmp .gt 40) := by decide +kernel
theorem i_43_30 : t_ins 43 30 = some (.aload_n 0) := by decide +kernel
theorem i_43_31 : t_ins 43 31 = some (.getfield 12) := by decide +kernel
theorem i_43_34 : t_ins 43 34 = some (.iload_n 2) := by decide +kernel
theorem i_43_35 : t_ins 43 35 = some (.invokevirtual 50) := by decide +kernel
theorem i_43_38 : t_ins 43 38 = some (.ifCond .eq 23) := by decide +kernel
theorem i_43_41 : t_ins 43 41 = some (.aload_n 0) := by decide +kernel
theorem i_43_42 : t_ins 43 42 = some (.getfield 18) := by decide +kernel
theorem i_43_45 : t_ins 43 45 = some (.aload_n 0) := by decide +kernel
theorem i_43_46 : t_ins 43 46 = some (.getfield 25) := by decide +kernel
theorem i_43_49 : t_ins 43 49 = some (.iload_n 2) := by decide +kernel
theorem i_43_50 : t_ins 43 50 = some (.iastore) := by decide +kernel
theorem i_43_51 : t_ins 43 51 = some (.aload_n 0) := by decide +kernel
theorem i_43_52 : t_ins 43 52 = some (.dup) := by decide +kernel
theorem i_43_53 : t_ins 43 53 = some (.getfield 25) := by decide +kernel
theorem i_43_56 : t_ins 43 56 = some (.iconst 1) := by decide +kernel
theorem i_43_57 : t_ins 43 57 = some (.iadd) := by decide +kernel
theorem i_43_58 : t_ins 43 58 = some (.putfield 25) := by decide +kernel
theorem i_43_61 : t_ins 43 61 = some (.iinc 2 1) := by decide +kernel
theorem i_43_64 : t_ins 43 64 = some (.goto (-49)) := by decide +kernel
theorem i_43_67 : t_ins 43 67 = some (.aload_n 0) := by decide +kernel
theorem i_43_68 : t_ins 43 68 = some (.invokevirtual 54) := by decide +kernel
theorem i_43_71 : t_ins 43 71 = some (.aload_n 0) := by decide +kernel
theorem i_43_72 : t_ins 43 72 = some (.iload_n 1) := by decide +kernel
theorem i_43_73 : t_ins 43 73 = some (.putfield 29) := by decide +kernel
theorem i_43_76 : t_ins 43 76 = some (.aload_n 0) := by decide +kernel
theorem i_43_77 : t_ins 43 77 = some (.areturn) := by decide +kernel
theorem q_43_0 : XX d 43 0 [some (.ref a), v1, v2] st A Q ↔ XX d 43 1 [some (.ref a), v1, v2] (.ref a :: st) A Q := c_lcl i_43_0 rfl rfl
theorem q_43_1 : XX d 43 1 [v0, v1, v2] (.ref a :: st) (mk S I L R G) Q ↔ S a = some (.inr 5) ∧ XX d 43 4 [v0, v1, v2] (.int (I a 4) :: st) (mk S I L R G) Q := r_gf i_43_1 rfl (by decide) rfl
theorem q_43_4 : XX d 43 4 [v0, some (.int x), v2] st A Q ↔ XX d 43 5 [v0, some (.int x), v2] (.int x :: st) A Q := c_lcl i_43_4 rfl rfl
theorem q_43_5 : XX d 43 5 [v0, v1, v2] (.int y :: .int x :: st) A Q ↔ if x = y then XX d 43 76 [v0, v1, v2] st A Q else XX d 43 8 [v0, v1, v2] st A Q := b_eq i_43_5 rfl rfl rfl
theorem q_43_8 : XX d 43 8 [some (.ref a), v1, v2] st A Q ↔ XX d 43 9 [some (.ref a), v1, v2] (.ref a :: st) A Q := c_lcl i_43_8 rfl rfl
theorem q_43_9 : XX d 43 9 [v0, v1, v2] st A Q ↔ XX d 43 10 [v0, v1, v2] (.int (w 0) :: st) A Q := c_stk i_43_9 rfl
theorem q_43_10 : XX d 43 10 [v0, v1, v2] (.int x :: .ref a :: st) (mk S I L R G) Q ↔ S a = some (.inr 5) ∧ XX d 43 13 [v0, v1, v2] st (mk S (wr I a (up (I a) 3 x)) L R G) Q := r_pf i_43_10 rfl (by decide) rfl rfl rfl
theorem q_43_13 : XX d 43 13 [v0, v1, v2] st A Q ↔ XX d 43 14 [v0, v1, v2] (.int (w 0) :: st) A Q := c_stk i_43_13 rfl
theorem q_43_14 : XX d 43 14 [v0, some (.int z), v2] (.int x :: st) A Q ↔ XX d 43 15 [v0, some (.int z), some (.int x)] st A Q := c_lcl i_43_14 rfl rfl
theorem q_43_15 : XX d 43 15 [v0, v1, some (.int x)] st A Q ↔ XX d 43 16 [v0, v1, some (.int x)] (.int x :: st) A Q := c_lcl i_43_15 rfl rfl
theorem q_43_16 : XX d 43 16 [v0, some (.int x), v2] st A Q ↔ XX d 43 17 [v0, some (.int x), v2] (.int x :: st) A Q := c_lcl i_43_16 rfl rfl
theorem q_43_17 : XX d 43 17 [v0, v1, v2] (.int y :: .int x :: st) A Q ↔ if y < x then XX d 43 67 [v0, v1, v2] st A Q else XX d 43 20 [v0, v1, v2] st A Q := b_gt i_43_17 rfl rfl rfl
theorem q_43_20 : XX d 43 20 [some (.ref a), v1, v2] st A Q ↔ XX d 43 21 [some (.ref a), v1, v2] (.ref a :: st) A Q := c_lcl i_43_20 rfl rfl
theorem q_43_21 : XX d 43 21 [v0, v1, v2] (.ref a :: st) (mk S I L R G) Q ↔ S a = some (.inr 5) ∧ XX d 43 24 [v0, v1, v2] (.int (I a 3) :: st) (mk S I L R G) Q := r_gf i_43_21 rfl (by decide) rfl
theorem q_43_24 : XX d 43 24 [v0, v1, v2] st A Q ↔ XX d 43 27 [v0, v1, v2] (.int (w 1000) :: st) A Q := c_stk i_43_24 rfl
theorem q_43_27 : XX d 43 27 [v0, v1, v2] (.int y :: .int x :: st) A Q ↔ if y < x then XX d 43 67 [v0, v1, v2] st A Q else XX d 43 30 [v0, v1, v2] st A Q := b_gt i_43_27 rfl rfl rfl
theorem q_43_30 : XX d 43 30 [some (.ref a), v1, v2] st A Q ↔ XX d 43 31 [some (.ref a), v1, v2] (.ref a :: st) A Q := c_lcl i_43_30 rfl rfl
theorem q_43_31 : XX d 43 31 [v0, v1, v2] (.ref a :: st) (mk S I L R G) Q ↔ S a = some (.inr 5) ∧ XX d 43 34 [v0, v1, v2] (.ref (a + 1) :: st) (mk S I L R G) Q := r_gf i_43_31 rfl (by decide) rfl
theorem q_43_34 : XX d 43 34 [v0, v1, some (.int x)] st A Q ↔ XX d 43 35 [v0, v1, some (.int x)] (.int x :: st) A Q := c_lcl i_43_34 rfl rfl
theorem q_43_35 : XX (d + 1) 43 35 [v0, v1, v2] [.int x1, .ref a0] (mk S I L R G) Q ↔ S a0 = some (.inr 9) ∧ XC d 84 [.ref a0, .int x1] (mk S I L R G) (XK (d + 1) 43 35 [v0, v1, v2] [] Q) := c_callV i_43_35 rfl rfl rfl rfl (Nat.le_of_ble_eq_true rfl) (Nat.le_of_ble_eq_true rfl) rfl
theorem q_43_38 : XX d 43 38 [v0, v1, v2] (.int x :: st) A Q ↔ if x = w 0 then XX d 43 61 [v0, v1, v2] st A Q else XX d 43 41 [v0, v1, v2] st A Q := z_eq i_43_38 rfl rfl rfl
theorem q_43_41 : XX d 43 41 [some (.ref a), v1, v2] st A Q ↔ XX d 43 42 [some (.ref a), v1, v2] (.ref a :: st) A Q := c_lcl i_43_41 rfl rfl
theorem q_43_42 : XX d 43 42 [v0, v1, v2] (.ref a :: st) (mk S I L R G) Q ↔ S a = some (.inr 5) ∧ XX d 43 45 [v0, v1, v2] (.ref (a + 18) :: st) (mk S I L R G) Q := r_gf i_43_42 rfl (by decide) rfl
theorem q_43_45 : XX d 43 45 [some (.ref a), v1, v2] st A Q ↔ XX d 43 46 [some (.ref a), v1, v2] (.ref a :: st) A Q := c_lcl i_43_45 rfl rfl
theorem q_43_46 : XX d 43 46 [v0, v1, v2] (.ref a :: st) (mk S I L R G) Q ↔ S a = some (.inr 5) ∧ XX d 43 49 [v0, v1, v2] (.int (I a 3) :: st) (mk S I L R G) Q := r_gf i_43_46 rfl (by decide) rfl
theorem q_43_49 : XX d 43 49 [v0, v1, some (.int x)] st A Q ↔ XX d 43 50 [v0, v1, some (.int x)] (.int x :: st) A Q := c_lcl i_43_49 rfl rfl
theorem q_43_50 : XX d 43 50 [v0, v1, v2] (.int y :: .int x :: .ref a :: st) (mk S I L R G) Q ↔ inA (S a) ok_0 x ∧ XX d 43 51 [v0, v1, v2] st (mk S (wr I a (up (I a) (ix x) y)) L R G) Q := r_ias i_43_50
theorem q_43_51 : XX d 43 51 [some (.ref a), v1, v2] st A Q ↔ XX d 43 52 [some (.ref a), v1, v2] (.ref a :: st) A Q := c_lcl i_43_51 rfl rfl
theorem q_43_52 : XX d 43 52 [v0, v1, v2] (.ref a1 :: st) A Q ↔ XX d 43 53 [v0, v1, v2] (.ref a1 :: .ref a1 :: st) A Q := c_stk i_43_52 rfl
theorem q_43_53 : XX d 43 53 [v0, v1, v2] (.ref a :: st) (mk S I L R G) Q ↔ S a = some (.inr 5) ∧ XX d 43 56 [v0, v1, v2] (.int (I a 3) :: st) (mk S I L R G) Q := r_gf i_43_53 rfl (by decide) rfl
theorem q_43_56 : XX d 43 56 [v0, v1, v2] st A Q ↔ XX d 43 57 [v0, v1, v2] (.int (w 1) :: st) A Q := c_stk i_43_56 rfl
theorem q_43_57 : XX d 43 57 [v0, v1, v2] (.int y :: .int x :: st) A Q ↔ XX d 43 58 [v0, v1, v2] (.int (x + y) :: st) A Q := c_stk i_43_57 rfl
theorem q_43_58 : XX d 43 58 [v0, v1, v2] (.int x :: .ref a :: st) (mk S I L R G) Q ↔ S a = some (.inr 5) ∧ XX d 43 61 [v0, v1, v2] st (mk S (wr I a (up (I a) 3 x)) L R G) Q := r_pf i_43_58 rfl (by decide) rfl rfl rfl
theorem q_43_61 : XX d 43 61 [v0, some (.int z), some (.int x)] st A Q ↔ XX d 43 64 [v0, some (.int z), some (.int (x + w 1))] st A Q := c_lcl i_43_61 rfl rfl
theorem q_43_64 : XX d 43 64 [v0, v1, v2] st A Q ↔ XX d 43 15 [v0, v1, v2] st A Q := c_go i_43_64 rfl rfl
theorem q_43_67 : XX d 43 67 [some (.ref a), v1, v2] st A Q ↔ XX d 43 68 [some (.ref a), v1, v2] (.ref a :: st) A Q := c_lcl i_43_67 rfl rfl
theorem q_43_68 : XX (d + 1) 43 68 [v0, v1, v2] [.ref a0] (mk S I L R G) Q ↔ S a0 = some (.inr 5) ∧ XC d 44 [.ref a0] (mk S I L R G) (XK (d + 1) 43 68 [v0, v1, v2] [] Q) := c_callV i_43_68 rfl rfl rfl rfl (Nat.le_of_ble_eq_true rfl) (Nat.le_of_ble_eq_true rfl) rfl
theorem q_43_71 : XX d 43 71 [some (.ref a), v1, v2] st A Q ↔ XX d 43 72 [some (.ref a), v1, v2] (.ref a :: st) A Q := c_lcl i_43_71 rfl rfl
theorem q_43_72 : XX d 43 72 [v0, some (.int x), v2] st A Q ↔ XX d 43 73 [v0, some (.int x), v2] (.int x :: st) A Q := c_lcl i_43_72 rfl rfl
theorem q_43_73 : XX d 43 73 [v0, v1, v2] (.int x :: .ref a :: st) (mk S I L R G) Q ↔ S a = some (.inr 5) ∧ XX d 43 76 [v0, v1, v2] st (mk S (wr I a (up (I a) 4 x)) L R G) Q := r_pf i_43_73 rfl (by decide) rfl rfl rfl
theorem q_43_76 : XX d 43 76 [some (.ref a), v1, v2] st A Q ↔ XX d 43 77 [some (.ref a), v1, v2] (.ref a :: st) A Q := c_lcl i_43_76 rfl rfl
theorem q_43_77 : XX d 43 77 [v0, v1, v2] [.ref a] A Q ↔ Q (.inl (some (.ref a))) A := e_retA i_43_77 rfl
theorem q_43_e : XC d 43 [.ref a0, .int x1] A Q ↔ XX d 43 0 [some (.ref a0), some (.int x1), none] [] A Q := Iff.rfl
theorem i_44_0 : t_ins 44 0 = some (.iconst 1) := by decide +kernel
theorem i_44_1 : t_ins 44 1 = some (.istore_n 1) := by decide +kernel
theorem i_44_2 : t_ins 44 2 = some (.iload_n 1) := by decide +kernel
theorem i_44_3 : t_ins 44 3 = some (.aload_n 0) := by decide +kernel
theorem i_44_4 : t_ins 44 4 = some (.getfield 25) := by decide +kernel
theorem i_44_7 : t_ins 44 7 = some (.if_icmp .ge 73) := by decide +kernel
theorem i_44_10 : t_ins 44 10 = some (.iconst 0) := by decide +kernel
theorem i_44_11 : t_ins 44 11 = some (.istore_n 2) := by decide +kernel
theorem i_44_12 : t_ins 44 12 = some (.iload_n 2) := by decide +kernel
theorem i_44_13 : t_ins 44 13 = some (.aload_n 0) := by decide +kernel
theorem i_44_14 : t_ins 44 14 = some (.getfield 25) := by decide +kernel
theorem i_44_17 : t_ins 44 17 = some (.if_icmp .ge 39) := by decide +kernel
theorem i_44_20 : t_ins 44 20 = some (.iload_n 2) := by decide +kernel
theorem i_44_21 : t_ins 44 21 = some (.iload_n 1) := by decide +kernel
theorem i_44_22 : t_ins 44 22 = some (.iadd) := by decide +kernel
theorem i_44_23 : t_ins 44 23 = some (.aload_n 0) := by decide +kernel
theorem i_44_24 : t_ins 44 24 = some (.getfield 25) := by decide +kernel
theorem i_44_27 : t_ins 44 27 = some (.invokestatic 57) := by decide +kernel
theorem i_44_30 : t_ins 44 30 = some (.istore_n 3) := by decide +kernel
theorem i_44_31 : t_ins 44 31 = some (.aload_n 0) := by decide +kernel
theorem i_44_32 : t_ins 44 32 = some (.iload_n 2) := by decide +kernel
theorem i_44_33 : t_ins 44 33 = some (.iload_n 3) := by decide +kernel
theorem i_44_34 : t_ins 44 34 = some (.iload_n 3) := by decide +kernel
theorem i_44_35 : t_ins 44 35 = some (.iload_n 1) := by decide +kernel
theorem i_44_36 : t_ins 44 36 = some (.iadd) := by decide +kernel
theorem i_44_37 : t_ins 44 37 = some (.aload_n 0) := by decide +kernel
theorem i_44_38 : t_ins 44 38 = some (.getfield 25) := by decide +kernel
theorem i_44_41 : t_ins 44 41 = some (.invokestatic 57) := by decide +kernel
theorem i_44_44 : t_ins 44 44 = some (.invokevirtual 63) := by decide +kernel
theorem i_44_47 : t_ins 44 47 = some (.iload_n 2) := by decide +kernel
theorem i_44_48 : t_ins 44 48 = some (.iconst 2) := by decide +kernel
theorem i_44_49 : t_ins 44 49 = some (.iload_n 1) := by decide +kernel
theorem i_44_50 : t_ins 44 50 = some (.imul) := by decide +kernel
theorem i_44_51 : t_ins 44 51 = some (.iadd) := by decide +kernel
theorem i_44_52 : t_ins 44 52 = some (.istore_n 2) := by decide +kernel
theorem i_44_53 : t_ins 44 53 = some (.goto (-41)) := by decide +kernel
theorem i_44_56 : t_ins 44 56 = some (.aload_n 0) := by decide +kernel
theorem i_44_57 : t_ins 44 57 = some (.getfield 22) := by decide +kernel
theorem i_44_60 : t_ins 44 60 = some (.iconst 0) := by decide +kernel
theorem i_44_61 : t_ins 44 61 = some (.aload_n 0) := by decide +kernel
theorem i_44_62 : t_ins 44 62 = some (.getfield 18) := by decide +kernel
theorem i_44_65 : t_ins 44 65 = some (.iconst 0) := by decide +kernel
theorem i_44_66 : t_ins 44 66 = some (.aload_n 0) := by decide +kernel
theorem i_44_67 : t_ins 44 67 = some (.getfield 25) := by decide +kernel
theorem i_44_70 : t_ins 44 70 = some (.invokestatic 67) := by decide +kernel
theorem i_44_73 : t_ins 44 73 = some (.iload_n 1) := by decide +kernel
theorem i_44_74 : t_ins 44 74 = some (.iconst 2) := by decide +kernel
theorem i_44_75 : t_ins 44 75 = some (.imul) := by decide +kernel
theorem i_44_76 : t_ins 44 76 = some (.istore_n 1) := by decide +kernel
theorem i_44_77 : t_ins 44 77 = some (.goto (-75)) := by decide +kernel
theorem i_44_80 : t_ins 44 80 = some (.return_) := by decide +kernel
theorem q_44_0 : XX d 44 0 [v0, v1, v2, v3] st A Q ↔ XX d 44 1 [v0, v1, v2, v3] (.int (w 1) :: st) A Q := c_stk i_44_0 rfl
theorem q_44_1 : XX d 44 1 [some (.ref b), v1, v2, v3] (.int x :: st) A Q ↔ XX d 44 2 [some (.ref b), some (.int x), v2, v3] st A Q := c_lcl i_44_1 rfl rfl
theorem q_44_2 : XX d 44 2 [v0, some (.int x), v2, v3] st A Q ↔ XX d 44 3 [v0, some (.int x), v2, v3] (.int x :: st) A Q := c_lcl i_44_2 rfl rfl
theorem q_44_3 : XX d 44 3 [some (.ref a), v1, v2, v3] st A Q ↔ XX d 44 4 [some (.ref a), v1, v2, v3] (.ref a :: st) A Q := c_lcl i_44_3 rfl rfl
theorem q_44_4 : XX d 44 4 [v0, v1, v2, v3] (.ref a :: st) (mk S I L R G) Q ↔ S a = some (.inr 5) ∧ XX d 44 7 [v0, v1, v2, v3] (.int (I a 3) :: st) (mk S I L R G) Q := r_gf i_44_4 rfl (by decide) rfl
theorem q_44_7 : XX d 44 7 [v0, v1, v2, v3] (.int y :: .int x :: st) A Q ↔ if x < y then XX d 44 10 [v0, v1, v2, v3] st A Q else XX d 44 80 [v0, v1, v2, v3] st A Q := b_ge i_44_7 rfl rfl rfl
theorem q_44_10 : XX d 44 10 [v0, v1, v2, v3] st A Q ↔ XX d 44 11 [v0, v1, v2, v3] (.int (w 0) :: st) A Q := c_stk i_44_10 rfl
theorem q_44_11 : XX d 44 11 [v0, some (.int z), v2, v3] (.int x :: st) A Q ↔ XX d 44 12 [v0, some (.int z), some (.int x), v3] st A Q := c_lcl i_44_11 rfl rfl
theorem q_44_12 : XX d 44 12 [v0, v1, some (.int x), v3] st A Q ↔ XX d 44 13 [v0, v1, some (.int x), v3] (.int x :: st) A Q := c_lcl i_44_12 rfl rfl
theorem q_44_13 : XX d 44 13 [some (.ref a), v1, v2, v3] st A Q ↔ XX d 44 14 [some (.ref a), v1, v2, v3] (.ref a :: st) A Q := c_lcl i_44_13 rfl rfl
theorem q_44_14 : XX d 44 14 [v0, v1, v2, v3] (.ref a :: st) (mk S I L R G) Q ↔ S a = some (.inr 5) ∧ XX d 44 17 [v0, v1, v2, v3] (.int (I a 3) :: st) (mk S I L R G) Q := r_gf i_44_14 rfl (by decide) rfl
theorem q_44_17 : XX d 44 17 [v0, v1, v2, v3] (.int y :: .int x :: st) A Q ↔ if x < y then XX d 44 20 [v0, v1, v2, v3] st A Q else XX d 44 56 [v0, v1, v2, v3] st A Q := b_ge i_44_17 rfl rfl rfl
theorem q_44_20 : XX d 44 20 [v0, v1, some (.int x), v3] st A Q ↔ XX d 44 21 [v0, v1, some (.int x), v3] (.int x :: st) A Q := c_lcl i_44_20 rfl rfl
theorem q_44_21 : XX d 44 21 [v0, some (.int x), v2, v3] st A Q ↔ XX d 44 22 [v0, some (.int x), v2, v3] (.int x :: st) A Q := c_lcl i_44_21 rfl rfl
theorem q_44_22 : XX d 44 22 [v0, v1, v2, v3] (.int y :: .int x :: st) A Q ↔ XX d 44 23 [v0, v1, v2, v3] (.int (x + y) :: st) A Q := c_stk i_44_22 rfl
theorem q_44_23 : XX d 44 23 [some (.ref a), v1, v2, v3] st A Q ↔ XX d 44 24 [some (.ref a), v1, v2, v3] (.ref a :: st) A Q := c_lcl i_44_23 rfl rfl
theorem q_44_24 : XX d 44 24 [v0, v1, v2, v3] (.ref a :: st) (mk S I L R G) Q ↔ S a = some (.inr 5) ∧ XX d 44 27 [v0, v1, v2, v3] (.int (I a 3) :: st) (mk S I L R G) Q := r_gf i_44_24 rfl (by decide) rfl
theorem q_44_27 : XX d 44 27 [v0, v1, v2, v3] [.int y, .int x] A Q ↔ XX d 44 30 [v0, v1, v2, v3] [.int (if y < x then y else x)] A Q := r_min i_44_27 rfl rfl (Nat.le_of_ble_eq_true rfl)
theorem q_44_30 : XX d 44 30 [v0, v1, some (.int z), v3] (.int x :: st) A Q ↔ XX d 44 31 [v0, v1, some (.int z), some (.int x)] st A Q := c_lcl i_44_30 rfl rfl
theorem q_44_31 : XX d 44 31 [some (.ref a), v1, v2, v3] st A Q ↔ XX d 44 32 [some (.ref a), v1, v2, v3] (.ref a :: st) A Q := c_lcl i_44_31 rfl rfl
theorem q_44_32 : XX d 44 32 [v0, v1, some (.int x), v3] st A Q ↔ XX d 44 33 [v0, v1, some (.int x), v3] (.int x :: st) A Q := c_lcl i_44_32 rfl rfl
theorem q_44_33 : XX d 44 33 [v0, v1, v2, some (.int x)] st A Q ↔ XX d 44 34 [v0, v1, v2, some (.int x)] (.int x :: st) A Q := c_lcl i_44_33 rfl rfl
theorem q_44_34 : XX d 44 34 [v0, v1, v2, some (.int x)] st A Q ↔ XX d 44 35 [v0, v1, v2, some (.int x)] (.int x :: st) A Q := c_lcl i_44_34 rfl rfl
theorem q_44_35 : XX d 44 35 [v0, some (.int x), v2, v3] st A Q ↔ XX d 44 36 [v0, some (.int x), v2, v3] (.int x :: st) A Q := c_lcl i_44_35 rfl rfl
theorem q_44_36 : XX d 44 36 [v0, v1, v2, v3] (.int y :: .int x :: st) A Q ↔ XX d 44 37 [v0, v1, v2, v3] (.int (x + y) :: st) A Q := c_stk i_44_36 rfl
theorem q_44_37 : XX d 44 37 [some (.ref a), v1, v2, v3] st A Q ↔ XX d 44 38 [some (.ref a), v1, v2, v3] (.ref a :: st) A Q := c_lcl i_44_37 rfl rfl
theorem q_44_38 : XX d 44 38 [v0, v1, v2, v3] (.ref a :: st) (mk S I L R G) Q ↔ S a = some (.inr 5) ∧ XX d 44 41 [v0, v1, v2, v3] (.int (I a 3) :: st) (mk S I L R G) Q := r_gf i_44_38 rfl (by decide) rfl
theorem q_44_41 : XX d 44 41 [v0, v1, v2, v3] [.int y, .int x, .int x0, .int x1, .ref a2] A Q ↔ XX d 44 44 [v0, v1, v2, v3] [.int (if y < x then y else x), .int x0, .int x1, .ref a2] A Q := r_min i_44_41 rfl rfl (Nat.le_of_ble_eq_true rfl)
theorem q_44_44 : XX (d + 1) 44 44 [v0, v1, v2, v3] [.int x3, .int x2, .int x1, .ref a0] (mk S I L R G) Q ↔ S a0 = some (.inr 5) ∧ XC d 45 [.ref a0, .int x1, .int x2, .int x3] (mk S I L R G) (XK (d + 1) 44 44 [v0, v1, v2, v3] [] Q) := c_callV i_44_44 rfl rfl rfl rfl (Nat.le_of_ble_eq_true rfl) (Nat.le_of_ble_eq_true rfl) rfl
theorem q_44_47 : XX d 44 47 [v0, v1, some (.int x), v3] st A Q ↔ XX d 44 48 [v0, v1, some (.int x), v3] (.int x :: st) A Q := c_lcl i_44_47 rfl rfl
theorem q_44_48 : XX d 44 48 [v0, v1, v2, v3] st A Q ↔ XX d 44 49 [v0, v1, v2, v3] (.int (w 2) :: st) A Q := c_stk i_44_48 rfl
theorem q_44_49 : XX d 44 49 [v0, some (.int x), v2, v3] st A Q ↔ XX d 44 50 [v0, some (.int x), v2, v3] (.int x :: st) A Q := c_lcl i_44_49 rfl rfl
theorem q_44_50 : XX d 44 50 [v0, v1, v2, v3] (.int y :: .int x :: st) A Q ↔ XX d 44 51 [v0, v1, v2, v3] (.int (x * y) :: st) A Q := c_stk i_44_50 rfl
theorem q_44_51 : XX d 44 51 [v0, v1, v2, v3] (.int y :: .int x :: st) A Q ↔ XX d 44 52 [v0, v1, v2, v3] (.int (x + y) :: st) A Q := c_stk i_44_51 rfl
theorem q_44_52 : XX d 44 52 [v0, some (.int z), v2, v3] (.int x :: st) A Q ↔ XX d 44 53 [v0, some (.int z), some (.int x), v3] st A Q := c_lcl i_44_52 rfl rfl
theorem q_44_53 : XX d 44 53 [v0, v1, v2, v3] st A Q ↔ XX d 44 12 [v0, v1, v2, v3] st A Q := c_go i_44_53 rfl rfl
theorem q_44_56 : XX d 44 56 [some (.ref a), v1, v2, v3] st A Q ↔ XX d 44 57 [some (.ref a), v1, v2, v3] (.ref a :: st) A Q := c_lcl i_44_56 rfl rfl
theorem q_44_57 : XX d 44 57 [v0, v1, v2, v3] (.ref a :: st) (mk S I L R G) Q ↔ S a = some (.inr 5) ∧ XX d 44 60 [v0, v1, v2, v3] (.ref (a + 19) :: st) (mk S I L R G) Q := r_gf i_44_57 rfl (by decide) rfl
theorem q_44_60 : XX d 44 60 [v0, v1, v2, v3] st A Q ↔ XX d 44 61 [v0, v1, v2, v3] (.int (w 0) :: st) A Q := c_stk i_44_60 rfl
theorem q_44_61 : XX d 44 61 [some (.ref a), v1, v2, v3] st A Q ↔ XX d 44 62 [some (.ref a), v1, v2, v3] (.ref a :: st) A Q := c_lcl i_44_61 rfl rfl
theorem q_44_62 : XX d 44 62 [v0, v1, v2, v3] (.ref a :: st) (mk S I L R G) Q ↔ S a = some (.inr 5) ∧ XX d 44 65 [v0, v1, v2, v3] (.ref (a + 18) :: st) (mk S I L R G) Q := r_gf i_44_62 rfl (by decide) rfl
theorem q_44_65 : XX d 44 65 [v0, v1, v2, v3] st A Q ↔ XX d 44 66 [v0, v1, v2, v3] (.int (w 0) :: st) A Q := c_stk i_44_65 rfl
theorem q_44_66 : XX d 44 66 [some (.ref a), v1, v2, v3] st A Q ↔ XX d 44 67 [some (.ref a), v1, v2, v3] (.ref a :: st) A Q := c_lcl i_44_66 rfl rfl
theorem q_44_67 : XX d 44 67 [v0, v1, v2, v3] (.ref a :: st) (mk S I L R G) Q ↔ S a = some (.inr 5) ∧ XX d 44 70 [v0, v1, v2, v3] (.int (I a 3) :: st) (mk S I L R G) Q := r_gf i_44_67 rfl (by decide) rfl
theorem q_44_70 (ha : S a = some (.inl (t, kk))) (hb : S b = some (.inl (t, jj))) (ht : t = 0 ∨ t = 2) : XX d 44 70 [v0, v1, v2, v3] [.int z, .int y, .ref b, .int x, .ref a] (mk S I L R G) Q ↔ (a ≠ b ∧ ¬ x < w 0 ∧ ¬ y < w 0 ∧ ¬ z < w 0 ∧ ix x + ix z ≤ kk ∧ ix y + ix z ≤ jj) ∧ XX d 44 73 [v0, v1, v2, v3] [] (mk S (wr I b (va_cpy (I a) (I b) (ix x) (ix y) (ix z))) L R G) Q := r_cp ha hb ht i_44_70 rfl rfl (Nat.le_of_ble_eq_true rfl)
theorem q_44_73 : XX d 44 73 [v0, some (.int x), v2, v3] st A Q ↔ XX d 44 74 [v0, some (.int x), v2, v3] (.int x :: st) A Q := c_lcl i_44_73 rfl rfl
theorem q_44_74 : XX d 44 74 [v0, v1, v2, v3] st A Q ↔ XX d 44 75 [v0, v1, v2, v3] (.int (w 2) :: st) A Q := c_stk i_44_74 rfl
theorem q_44_75 : XX d 44 75 [v0, v1, v2, v3] (.int y :: .int x :: st) A Q ↔ XX d 44 76 [v0, v1, v2, v3] (.int (x * y) :: st) A Q := c_stk i_44_75 rfl
theorem q_44_76 : XX d 44 76 [some (.ref b), v1, v2, v3] (.int x :: st) A Q ↔ XX d 44 77 [some (.ref b), some (.int x), v2, v3] st A Q := c_lcl i_44_76 rfl rfl
theorem q_44_77 : XX d 44 77 [v0, v1, v2, v3] st A Q ↔ XX d 44 2 [v0, v1, v2, v3] st A Q := c_go i_44_77 rfl rfl
theorem q_44_80 : XX d 44 80 [v0, v1, v2, v3] [] A Q ↔ Q (.inl none) A := e_retN i_44_80 rfl
theorem q_44_e : XC d 44 [.ref a0] A Q ↔ XX d 44 0 [some (.ref a0), none, none, none] [] A Q := Iff.rfl
theorem i_45_0 : t_ins 45 0 = some (.iload_n 1) := by decide +kernel
theorem i_45_1 : t_ins 45 1 = some (.istore 4) := by decide +kernel
theorem i_45_3 : t_ins 45 3 = some (.iload_n 2) := by decide +kernel
theorem i_45_4 : t_ins 45 4 = some (.istore 5) := by decide +kernel
theorem i_45_6 : t_ins 45 6 = some (.iload_n 1) := by decide +kernel
theorem i_45_7 : t_ins 45 7 = some (.istore 6) := by decide +kernel
theorem i_45_9 : t_ins 45 9 = some (.iload 6) := by decide +kernel
theorem i_45_11 : t_ins 45 11 = some (.iload_n 3) := by decide +kernel
theorem i_45_12 : t_ins 45 12 = some (.if_icmp .ge 91) := by decide +kernel
theorem i_45_15 : t_ins 45 15 = some (.iload 5) := by decide +kernel
theorem i_45_17 : t_ins 45 17 = some (.iload_n 3) := by decide +kernel
theorem i_45_18 : t_ins 45 18 = some (.if_icmp .ge 30) := by decide +kernel
theorem i_45_21 : t_ins 45 21 = some (.iload 4) := by decide +kernel
theorem i_45_23 : t_ins 45 23 = some (.iload_n 2) := by decide +kernel
theorem i_45_24 : t_ins 45 24 = some (.if_icmp .ge 28) := by decide +kernel
theorem i_45_27 : t_ins 45 27 = some (.aload_n 0) := by decide +kernel
theorem i_45_28 : t_ins 45 28 = some (.aload_n 0) := by decide +kernel
theorem i_45_29 : t_ins 45 29 = some (.getfield 18) := by decide +kernel
theorem i_45_32 : t_ins 45 32 = some (.iload 4) := by decide +kernel
theorem i_45_34 : t_ins 45 34 = some (.iaload) := by decide +kernel
theorem i_45_35 : t_ins 45 35 = some (.aload_n 0) := by decide +kernel
theorem i_45_36 : t_ins 45 36 = some (.getfield 18) := by decide +kernel
theorem i_45_39 : t_ins 45 39 = some (.iload 5) := by decide +kernel
theorem i_45_41 : t_ins 45 41 = some (.iaload) := by decide +kernel
theorem i_45_42 : t_ins 45 42 = some (.invokevirtual 73) := by decide +kernel
theorem i_45_45 : t_ins 45 45 = some (.ifCond .gt 7) := by decide +kernel
theorem i_45_48 : t_ins 45 48 = some (.iconst 1) := by decide +kernel
theorem i_45_49 : t_ins 45 49 = some (.goto 4) := by decide +kernel
theorem i_45_52 : t_ins 45 52 = some (.iconst 0) := by decide +kernel
theorem i_45_53 : t_ins 45 53 = some (.istore 7) := by decide +kernel
theorem i_45_55 : t_ins 45 55 = some (.iload 7) := by decide +kernel
theorem i_45_57 : t_ins 45 57 = some (.ifCond .eq 23) := by decide +kernel
theorem i_45_60 : t_ins 45 60 = some (.aload_n 0) := by decide +kernel
theorem i_45_61 : t_ins 45 61 = some (.getfield 22) := by decide +kernel
theorem i_45_64 : t_ins 45 64 = some (.iload 6) := by decide +kernel
theorem i_45_66 : t_ins 45 66 = some (.aload_n 0) := by decide +kernel
theorem i_45_67 : t_ins 45 67 = some (.getfield 18) := by decide +kernel
theorem i_45_70 : t_ins 45 70 = some (.iload 4) := by decide +kernel
theorem i_45_72 : t_ins 45 72 = some (.iaload) := by decide +kernel
theorem i_45_73 : t_ins 45 73 = some (.iastore) := by decide +kernel
theorem i_45_74 : t_ins 45 74 = some (.iinc 4 1) := by decide +kernel
theorem i_45_77 : t_ins 45 77 = some (.goto 20) := by decide +kernel
theorem i_45_80 : t_ins 45 80 = some (.aload_n 0) := by decide +kernel
theorem i_45_81 : t_ins 45 81 = some (.getfield 22) := by decide +kernel
theorem i_45_84 : t_ins 45 84 = some (.iload 6) := by decide +kernel
theorem i_45_86 : t_ins 45 86 = some (.aload_n 0) := by decide +kernel
theorem i_45_87 : t_ins 45 87 = some (.getfield 18) := by decide +kernel
theorem i_45_90 : t_ins 45 90 = some (.iload 5) := by decide +kernel
theorem i_45_92 : t_ins 45 92 = some (.iaload) := by decide +kernel
theorem i_45_93 : t_ins 45 93 = some (.iastore) := by decide +kernel
theorem i_45_94 : t_ins 45 94 = some (.iinc 5 1) := by decide +kernel
theorem i_45_97 : t_ins 45 97 = some (.iinc 6 1) := by decide +kernel
theorem i_45_100 : t_ins 45 100 = some (.goto (-91)) := by decide +kernel
theorem i_45_103 : t_ins 45 103 = some (.return_) := by decide +kernel
theorem q_45_0 : XX d 45 0 [v0, some (.int x), v2, v3, v4, v5, v6, v7] st A Q ↔ XX d 45 1 [v0, some (.int x), v2, v3, v4, v5, v6, v7] (.int x :: st) A Q := c_lcl i_45_0 rfl rfl
theorem q_45_1 : XX d 45 1 [v0, v1, v2, some (.int z), v4, v5, v6, v7] (.int x :: st) A Q ↔ XX d 45 3 [v0, v1, v2, some (.int z), some (.int x), v5, v6, v7] st A Q := c_lcl i_45_1 rfl rfl
theorem q_45_3 : XX d 45 3 [v0, v1, some (.int x), v3, v4, v5, v6, v7] st A Q ↔ XX d 45 4 [v0, v1, some (.int x), v3, v4, v5, v6, v7] (.int x :: st) A Q := c_lcl i_45_3 rfl rfl
theorem q_45_4 : XX d 45 4 [v0, v1, v2, v3, some (.int z), v5, v6, v7] (.int x :: st) A Q ↔ XX d 45 6 [v0, v1, v2, v3, some (.int z), some (.int x), v6, v7] st A Q := c_lcl i_45_4 rfl rfl
theorem q_45_6 : XX d 45 6 [v0, some (.int x), v2, v3, v4, v5, v6, v7] st A Q ↔ XX d 45 7 [v0, some (.int x), v2, v3, v4, v5, v6, v7] (.int x :: st) A Q := c_lcl i_45_6 rfl rfl
theorem q_45_7 : XX d 45 7 [v0, v1, v2, v3, v4, some (.int z), v6, v7] (.int x :: st) A Q ↔ XX d 45 9 [v0, v1, v2, v3, v4, some (.int z), some (.int x), v7] st A Q := c_lcl i_45_7 rfl rfl
theorem q_45_9 : XX d 45 9 [v0, v1, v2, v3, v4, v5, some (.int x), v7] st A Q ↔ XX d 45 11 [v0, v1, v2, v3, v4, v5, some (.int x), v7] (.int x :: st) A Q := c_lcl i_45_9 rfl rfl
theorem q_45_11 : XX d 45 11 [v0, v1, v2, some (.int x), v4, v5, v6, v7] st A Q ↔ XX d 45 12 [v0, v1, v2, some (.int x), v4, v5, v6, v7] (.int x :: st) A Q := c_lcl i_45_11 rfl rfl
theorem q_45_12 : XX d 45 12 [v0, v1, v2, v3, v4, v5, v6, v7] (.int y :: .int x :: st) A Q ↔ if x < y then XX d 45 15 [v0, v1, v2, v3, v4, v5, v6, v7] st A Q else XX d 45 103 [v0, v1, v2, v3, v4, v5, v6, v7] st A Q := b_ge i_45_12 rfl rfl rfl
theorem q_45_15 : XX d 45 15 [v0, v1, v2, v3, v4, some (.int x), v6, v7] st A Q ↔ XX d 45 17 [v0, v1, v2, v3, v4, some (.int x), v6, v7] (.int x :: st) A Q := c_lcl i_45_15 rfl rfl
theorem q_45_17 : XX d 45 17 [v0, v1, v2, some (.int x), v4, v5, v6, v7] st A Q ↔ XX d 45 18 [v0, v1, v2, some (.int x), v4, v5, v6, v7] (.int x :: st) A Q := c_lcl i_45_17 rfl rfl
theorem q_45_18 : XX d 45 18 [v0, v1, v2, v3, v4, v5, v6, v7] (.int y :: .int x :: st) A Q ↔ if x < y then XX d 45 21 [v0, v1, v2, v3, v4, v5, v6, v7] st A Q else XX d 45 48 [v0, v1, v2, v3, v4, v5, v6, v7] st A Q := b_ge i_45_18 rfl rfl rfl
theorem q_45_21 : XX d 45 21 [v0, v1, v2, v3, some (.int x), v5, v6, v7] st A Q ↔ XX d 45 23 [v0, v1, v2, v3, some (.int x), v5, v6, v7] (.int x :: st) A Q := c_lcl i_45_21 rfl rfl
theorem q_45_23 : XX d 45 23 [v0, v1, some (.int x), v3, v4, v5, v6, v7] st A Q ↔ XX d 45 24 [v0, v1, some (.int x), v3, v4, v5, v6, v7] (.int x :: st) A Q := c_lcl i_45_23 rfl rfl
theorem q_45_24 : XX d 45 24 [v0, v1, v2, v3, v4, v5, v6, v7] (.int y :: .int x :: st) A Q ↔ if x < y then XX d 45 27 [v0, v1, v2, v3, v4, v5, v6, v7] st A Q else XX d 45 52 [v0, v1, v2, v3, v4, v5, v6, v7] st A Q := b_ge i_45_24 rfl rfl rfl
theorem q_45_27 : XX d 45 27 [some (.ref a), v1, v2, v3, v4, v5, v6, v7] st A Q ↔ XX d 45 28 [some (.ref a), v1, v2, v3, v4, v5, v6, v7] (.ref a :: st) A Q := c_lcl i_45_27 rfl rfl
theorem q_45_28 : XX d 45 28 [some (.ref a), v1, v2, v3, v4, v5, v6, v7] st A Q ↔ XX d 45 29 [some (.ref a), v1, v2, v3, v4, v5, v6, v7] (.ref a :: st) A Q := c_lcl i_45_28 rfl rfl
theorem q_45_29 : XX d 45 29 [v0, v1, v2, v3, v4, v5, v6, v7] (.ref a :: st) (mk S I L R G) Q ↔ S a = some (.inr 5) ∧ XX d 45 32 [v0, v1, v2, v3, v4, v5, v6, v7] (.ref (a + 18) :: st) (mk S I L R G) Q := r_gf i_45_29 rfl (by decide) rfl
theorem q_45_32 : XX d 45 32 [v0, v1, v2, v3, some (.int x), v5, v6, v7] st A Q ↔ XX d 45 34 [v0, v1, v2, v3, some (.int x), v5, v6, v7] (.int x :: st) A Q := c_lcl i_45_32 rfl rfl
theorem q_45_34 : XX d 45 34 [v0, v1, v2, v3, v4, v5, v6, v7] (.int x :: .ref a :: st) (mk S I L R G) Q ↔ inA (S a) ok_i x ∧ XX d 45 35 [v0, v1, v2, v3, v4, v5, v6, v7] (.int (I a (ix x)) :: st) (mk S I L R G) Q := r_ia i_45_34
theorem q_45_35 : XX d 45 35 [some (.ref a), v1, v2, v3, v4, v5, v6, v7] st A Q ↔ XX d 45 36 [some (.ref a), v1, v2, v3, v4, v5, v6, v7] (.ref a :: st) A Q := c_lcl i_45_35 rfl rfl
theorem q_45_36 : XX d 45 36 [v0, v1, v2, v3, v4, v5, v6, v7] (.ref a :: st) (mk S I L R G) Q ↔ S a = some (.inr 5) ∧ XX d 45 39 [v0, v1, v2, v3, v4, v5, v6, v7] (.ref (a + 18) :: st) (mk S I L R G) Q := r_gf i_45_36 rfl (by decide) rfl
theorem q_45_39 : XX d 45 39 [v0, v1, v2, v3, v4, some (.int x), v6, v7] st A Q ↔ XX d 45 41 [v0, v1, v2, v3, v4, some (.int x), v6, v7] (.int x :: st) A Q := c_lcl i_45_39 rfl rfl
theorem q_45_41 : XX d 45 41 [v0, v1, v2, v3, v4, v5, v6, v7] (.int x :: .ref a :: st) (mk S I L R G) Q ↔ inA (S a) ok_i x ∧ XX d 45 42 [v0, v1, v2, v3, v4, v5, v6, v7] (.int (I a (ix x)) :: st) (mk S I L R G) Q := r_ia i_45_41
theorem q_45_42 : XX (d + 1) 45 42 [v0, v1, v2, v3, v4, v5, v6, v7] [.int x2, .int x1, .ref a0] (mk S I L R G) Q ↔ S a0 = some (.inr 5) ∧ XC d 46 [.ref a0, .int x1, .int x2] (mk S I L R G) (XK (d + 1) 45 42 [v0, v1, v2, v3, v4, v5, v6, v7] [] Q) := c_callV i_45_42 rfl rfl rfl rfl (Nat.le_of_ble_eq_true rfl) (Nat.le_of_ble_eq_true rfl) rfl
theorem q_45_45 : XX d 45 45 [v0, v1, v2, v3, v4, v5, v6, v7] (.int x :: st) A Q ↔ if w 0 < x then XX d 45 52 [v0, v1, v2, v3, v4, v5, v6, v7] st A Q else XX d 45 48 [v0, v1, v2, v3, v4, v5, v6, v7] st A Q := z_gt i_45_45 rfl rfl rfl
theorem q_45_48 : XX d 45 48 [v0, v1, v2, v3, v4, v5, v6, v7] st A Q ↔ XX d 45 49 [v0, v1, v2, v3, v4, v5, v6, v7] (.int (w 1) :: st) A Q := c_stk i_45_48 rfl
theorem q_45_49 : XX d 45 49 [v0, v1, v2, v3, v4, v5, v6, v7] st A Q ↔ XX d 45 53 [v0, v1, v2, v3, v4, v5, v6, v7] st A Q := c_go i_45_49 rfl rfl
theorem q_45_52 : XX d 45 52 [v0, v1, v2, v3, v4, v5, v6, v7] st A Q ↔ XX d 45 53 [v0, v1, v2, v3, v4, v5, v6, v7] (.int (w 0) :: st) A Q := c_stk i_45_52 rfl
theorem q_45_53 : XX d 45 53 [v0, v1, v2, v3, v4, v5, some (.int z), v7] (.int x :: st) A Q ↔ XX d 45 55 [v0, v1, v2, v3, v4, v5, some (.int z), some (.int x)] st A Q := c_lcl i_45_53 rfl rfl
theorem q_45_55 : XX d 45 55 [v0, v1, v2, v3, v4, v5, v6, some (.int x)] st A Q ↔ XX d 45 57 [v0, v1, v2, v3, v4, v5, v6, some (.int x)] (.int x :: st) A Q := c_lcl i_45_55 rfl rfl
theorem q_45_57 : XX d 45 57 [v0, v1, v2, v3, v4, v5, v6, v7] (.int x :: st) A Q ↔ if x = w 0 then XX d 45 80 [v0, v1, v2, v3, v4, v5, v6, v7] st A Q else XX d 45 60 [v0, v1, v2, v3, v4, v5, v6, v7] st A Q := z_eq i_45_57 rfl rfl rfl
theorem q_45_60 : XX d 45 60 [some (.ref a), v1, v2, v3, v4, v5, v6, v7] st A Q ↔ XX d 45 61 [some (.ref a), v1, v2, v3, v4, v5, v6, v7] (.ref a :: st) A Q := c_lcl i_45_60 rfl rfl
theorem q_45_61 : XX d 45 61 [v0, v1, v2, v3, v4, v5, v6, v7] (.ref a :: st) (mk S I L R G) Q ↔ S a = some (.inr 5) ∧ XX d 45 64 [v0, v1, v2, v3, v4, v5, v6, v7] (.ref (a + 19) :: st) (mk S I L R G) Q := r_gf i_45_61 rfl (by decide) rfl
theorem q_45_64 : XX d 45 64 [v0, v1, v2, v3, v4, v5, some (.int x), v7] st A Q ↔ XX d 45 66 [v0, v1, v2, v3, v4, v5, some (.int x), v7] (.int x :: st) A Q := c_lcl i_45_64 rfl rfl
theorem q_45_66 : XX d 45 66 [some (.ref a), v1, v2, v3, v4, v5, v6, v7] st A Q ↔ XX d 45 67 [some (.ref a), v1, v2, v3, v4, v5, v6, v7] (.ref a :: st) A Q := c_lcl i_45_66 rfl rfl
theorem q_45_67 : XX d 45 67 [v0, v1, v2, v3, v4, v5, v6, v7] (.ref a :: st) (mk S I L R G) Q ↔ S a = some (.inr 5) ∧ XX d 45 70 [v0, v1, v2, v3, v4, v5, v6, v7] (.ref (a + 18) :: st) (mk S I L R G) Q := r_gf i_45_67 rfl (by decide) rfl
theorem q_45_70 : XX d 45 70 [v0, v1, v2, v3, some (.int x), v5, v6, v7] st A Q ↔ XX d 45 72 [v0, v1, v2, v3, some (.int x), v5, v6, v7] (.int x :: st) A Q := c_lcl i_45_70 rfl rfl
theorem q_45_72 : XX d 45 72 [v0, v1, v2, v3, v4, v5, v6, v7] (.int x :: .ref a :: st) (mk S I L R G) Q ↔ inA (S a) ok_i x ∧ XX d 45 73 [v0, v1, v2, v3, v4, v5, v6, v7] (.int (I a (ix x)) :: st) (mk S I L R G) Q := r_ia i_45_72
theorem q_45_73 : XX d 45 73 [v0, v1, v2, v3, v4, v5, v6, v7] (.int y :: .int x :: .ref a :: st) (mk S I L R G) Q ↔ inA (S a) ok_0 x ∧ XX d 45 74 [v0, v1, v2, v3, v4, v5, v6, v7] st (mk S (wr I a (up (I a) (ix x) y)) L R G) Q := r_ias i_45_73
theorem q_45_74 : XX d 45 74 [v0, v1, v2, some (.int z), some (.int x), v5, v6, v7] st A Q ↔ XX d 45 77 [v0, v1, v2, some (.int z), some (.int (x + w 1)), v5, v6, v7] st A Q := c_lcl i_45_74 rfl rfl
theorem q_45_77 : XX d 45 77 [v0, v1, v2, v3, v4, v5, v6, v7] st A Q ↔ XX d 45 97 [v0, v1, v2, v3, v4, v5, v6, v7] st A Q := c_go i_45_77 rfl rfl
theorem q_45_80 : XX d 45 80 [some (.ref a), v1, v2, v3, v4, v5, v6, v7] st A Q ↔ XX d 45 81 [some (.ref a), v1, v2, v3, v4, v5, v6, v7] (.ref a :: st) A Q := c_lcl i_45_80 rfl rfl
theorem q_45_81 : XX d 45 81 [v0, v1, v2, v3, v4, v5, v6, v7] (.ref a :: st) (mk S I L R G) Q ↔ S a = some (.inr 5) ∧ XX d 45 84 [v0, v1, v2, v3, v4, v5, v6, v7] (.ref (a + 19) :: st) (mk S I L R G) Q := r_gf i_45_81 rfl (by decide) rfl
theorem q_45_84 : XX d 45 84 [v0, v1, v2, v3, v4, v5, some (.int x), v7] st A Q ↔ XX d 45 86 [v0, v1, v2, v3, v4, v5, some (.int x), v7] (.int x :: st) A Q := c_lcl i_45_84 rfl rfl
theorem q_45_86 : XX d 45 86 [some (.ref a), v1, v2, v3, v4, v5, v6, v7] st A Q ↔ XX d 45 87 [some (.ref a), v1, v2, v3, v4, v5, v6, v7] (.ref a :: st) A Q := c_lcl i_45_86 rfl rfl
theorem q_45_87 : XX d 45 87 [v0, v1, v2, v3, v4, v5, v6, v7] (.ref a :: st) (mk S I L R G) Q ↔ S a = some (.inr 5) ∧ XX d 45 90 [v0, v1, v2, v3, v4, v5, v6, v7] (.ref (a + 18) :: st) (mk S I L R G) Q := r_gf i_45_87 rfl (by decide) rfl
theorem q_45_90 : XX d 45 90 [v0, v1, v2, v3, v4, some (.int x), v6, v7] st A Q ↔ XX d 45 92 [v0, v1, v2, v3, v4, some (.int x), v6, v7] (.int x :: st) A Q := c_lcl i_45_90 rfl rfl
theorem q_45_92 : XX d 45 92 [v0, v1, v2, v3, v4, v5, v6, v7] (.int x :: .ref a :: st) (mk S I L R G) Q ↔ inA (S a) ok_i x ∧ XX d 45 93 [v0, v1, v2, v3, v4, v5, v6, v7] (.int (I a (ix x)) :: st) (mk S I L R G) Q := r_ia i_45_92
theorem q_45_93 : XX d 45 93 [v0, v1, v2, v3, v4, v5, v6, v7] (.int y :: .int x :: .ref a :: st) (mk S I L R G) Q ↔ inA (S a) ok_0 x ∧ XX d 45 94 [v0, v1, v2, v3, v4, v5, v6, v7] st (mk S (wr I a (up (I a) (ix x) y)) L R G) Q := r_ias i_45_93
theorem q_45_94 : XX d 45 94 [v0, v1, v2, v3, some (.int z), some (.int x), v6, v7] st A Q ↔ XX d 45 97 [v0, v1, v2, v3, some (.int z), some (.int (x + w 1)), v6, v7] st A Q := c_lcl i_45_94 rfl rfl
theorem q_45_97 : XX d 45 97 [v0, v1, v2, v3, v4, some (.int z), some (.int x), v7] st A Q ↔ XX d 45 100 [v0, v1, v2, v3, v4, some (.int z), some (.int (x + w 1)), v7] st A Q := c_lcl i_45_97 rfl rfl
theorem q_45_100 : XX d 45 100 [v0, v1, v2, v3, v4, v5, v6, v7] st A Q ↔ XX d 45 9 [v0, v1, v2, v3, v4, v5, v6, v7] st A Q := c_go i_45_100 rfl rfl
theorem q_45_103 : XX d 45 103 [v0, v1, v2, v3, v4, v5, v6, v7] [] A Q ↔ Q (.inl none) A := e_retN i_45_103 rfl
theorem q_45_e : XC d 45 [.ref a0, .int x1, .int x2, .int x3] A Q ↔ XX d 45 0 [some (.ref a0), some (.int x1), some (.int x2), some (.int x3), none, none, none, none] [] A Q := Iff.rfl
theorem i_46_0 : t_ins 46 0 = some (.aload_n 0) := by decide +kernel
theorem i_46_1 : t_ins 46 1 = some (.getfield 12) := by decide +kernel
theorem i_46_4 : t_ins 46 4 = some (.getfield 76) := by decide +kernel
theorem i_46_7 : t_ins 46 7 = some (.astore_n 3) := by decide +kernel
theorem i_46_8 : t_ins 46 8 = some (.aload_n 3) := by decide +kernel
theorem i_46_9 : t_ins 46 9 = some (.getfield 80) := by decide +kernel
theorem i_46_12 : t_ins 46 12 = some (.aload_n 3) := by decide +kernel
theorem i_46_13 : t_ins 46 13 = some (.iload_n 1) := by decide +kernel
theorem i_46_14 : t_ins 46 14 = some (.invokevirtual 86) := by decide +kernel
theorem i_46_17 : t_ins 46 17 = some (.aload_n 3) := by decide +kernel
theorem i_46_18 : t_ins 46 18 = some (.iload_n 1) := by decide +kernel
theorem i_46_19 : t_ins 46 19 = some (.invokevirtual 90) := by decide +kernel
theorem i_46_22 : t_ins 46 22 = some (.aload_n 3) := by decide +kernel
theorem i_46_23 : t_ins 46 23 = some (.getfield 80) := by decide +kernel
theorem i_46_26 : t_ins 46 26 = some (.aload_n 3) := by decide +kernel
theorem i_46_27 : t_ins 46 27 = some (.iload_n 2) := by decide +kernel
theorem i_46_28 : t_ins 46 28 = some (.invokevirtual 86) := by decide +kernel
theorem i_46_31 : t_ins 46 31 = some (.aload_n 3) := by decide +kernel
theorem i_46_32 : t_ins 46 32 = some (.iload_n 2) := by decide +kernel
theorem i_46_33 : t_ins 46 33 = some (.invokevirtual 90) := by decide +kernel
theorem i_46_36 : t_ins 46 36 = some (.invokestatic 93) := by decide +kernel
theorem i_46_39 : t_ins 46 39 = some (.ireturn) := by decide +kernel
theorem q_46_0 : XX d 46 0 [some (.ref a), v1, v2, v3] st A Q ↔ XX d 46 1 [some (.ref a), v1, v2, v3] (.ref a :: st) A Q := c_lcl i_46_0 rfl rfl
theorem q_46_1 : XX d 46 1 [v0, v1, v2, v3] (.ref a :: st) (mk S I L R G) Q ↔ S a = some (.inr 5) ∧ XX d 46 4 [v0, v1, v2, v3] (.ref (a + 1) :: st) (mk S I L R G) Q := r_gf i_46_1 rfl (by decide) rfl
theorem q_46_4 : XX d 46 4 [v0, v1, v2, v3] (.ref a :: st) (mk S I L R G) Q ↔ S a = some (.inr 9) ∧ XX d 46 7 [v0, v1, v2, v3] (.ref (a + 1) :: st) (mk S I L R G) Q := r_gf i_46_4 rfl (by decide) rfl
theorem q_46_7 : XX d 46 7 [v0, v1, some (.int z), v3] (.ref a :: st) A Q ↔ XX d 46 8 [v0, v1, some (.int z), some (.ref a)] st A Q := c_lcl i_46_7 rfl rfl
theorem q_46_8 : XX d 46 8 [v0, v1, v2, some (.ref a)] st A Q ↔ XX d 46 9 [v0, v1, v2, some (.ref a)] (.ref a :: st) A Q := c_lcl i_46_8 rfl rfl
theorem q_46_9 : XX d 46 9 [v0, v1, v2, v3] (.ref a :: st) (mk S I L R G) Q ↔ S a = some (.inr 4) ∧ XX d 46 12 [v0, v1, v2, v3] (.ref (a + 1) :: st) (mk S I L R G) Q := r_gf i_46_9 rfl (by decide) rfl
theorem q_46_12 : XX d 46 12 [v0, v1, v2, some (.ref a)] st A Q ↔ XX d 46 13 [v0, v1, v2, some (.ref a)] (.ref a :: st) A Q := c_lcl i_46_12 rfl rfl
theorem q_46_13 : XX d 46 13 [v0, some (.int x), v2, v3] st A Q ↔ XX d 46 14 [v0, some (.int x), v2, v3] (.int x :: st) A Q := c_lcl i_46_13 rfl rfl
theorem q_46_14 : XX (d + 1) 46 14 [v0, v1, v2, v3] [.int x1, .ref a0, .ref a2] (mk S I L R G) Q ↔ S a0 = some (.inr 4) ∧ XC d 31 [.ref a0, .int x1] (mk S I L R G) (XK (d + 1) 46 14 [v0, v1, v2, v3] [.ref a2] Q) := c_callV i_46_14 rfl rfl rfl rfl (Nat.le_of_ble_eq_true rfl) (Nat.le_of_ble_eq_true rfl) rfl
theorem q_46_17 : XX d 46 17 [v0, v1, v2, some (.ref a)] st A Q ↔ XX d 46 18 [v0, v1, v2, some (.ref a)] (.ref a :: st) A Q := c_lcl i_46_17 rfl rfl
theorem q_46_18 : XX d 46 18 [v0, some (.int x), v2, v3] st A Q ↔ XX d 46 19 [v0, some (.int x), v2, v3] (.int x :: st) A Q := c_lcl i_46_18 rfl rfl
theorem q_46_19 : XX (d + 1) 46 19 [v0, v1, v2, v3] [.int x1, .ref a0, .int x2, .ref a3] (mk S I L R G) Q ↔ S a0 = some (.inr 4) ∧ XC d 32 [.ref a0, .int x1] (mk S I L R G) (XK (d + 1) 46 19 [v0, v1, v2, v3] [.int x2, .ref a3] Q) := c_callV i_46_19 rfl rfl rfl rfl (Nat.le_of_ble_eq_true rfl) (Nat.le_of_ble_eq_true rfl) rfl
theorem q_46_22 : XX d 46 22 [v0, v1, v2, some (.ref a)] st A Q ↔ XX d 46 23 [v0, v1, v2, some (.ref a)] (.ref a :: st) A Q := c_lcl i_46_22 rfl rfl
theorem q_46_23 : XX d 46 23 [v0, v1, v2, v3] (.ref a :: st) (mk S I L R G) Q ↔ S a = some (.inr 4) ∧ XX d 46 26 [v0, v1, v2, v3] (.ref (a + 1) :: st) (mk S I L R G) Q := r_gf i_46_23 rfl (by decide) rfl
theorem q_46_26 : XX d 46 26 [v0, v1, v2, some (.ref a)] st A Q ↔ XX d 46 27 [v0, v1, v2, some (.ref a)] (.ref a :: st) A Q := c_lcl i_46_26 rfl rfl
theorem q_46_27 : XX d 46 27 [v0, v1, some (.int x), v3] st A Q ↔ XX d 46 28 [v0, v1, some (.int x), v3] (.int x :: st) A Q := c_lcl i_46_27 rfl rfl
theorem q_46_28 : XX (d + 1) 46 28 [v0, v1, v2, v3] [.int x1, .ref a0, .ref a2, .int x3, .int x4, .ref a5] (mk S I L R G) Q ↔ S a0 = some (.inr 4) ∧ XC d 31 [.ref a0, .int x1] (mk S I L R G) (XK (d + 1) 46 28 [v0, v1, v2, v3] [.ref a2, .int x3, .int x4, .ref a5] Q) := c_callV i_46_28 rfl rfl rfl rfl (Nat.le_of_ble_eq_true rfl) (Nat.le_of_ble_eq_true rfl) rfl
theorem q_46_31 : XX d 46 31 [v0, v1, v2, some (.ref a)] st A Q ↔ XX d 46 32 [v0, v1, v2, some (.ref a)] (.ref a :: st) A Q := c_lcl i_46_31 rfl rfl
theorem q_46_32 : XX d 46 32 [v0, v1, some (.int x), v3] st A Q ↔ XX d 46 33 [v0, v1, some (.int x), v3] (.int x :: st) A Q := c_lcl i_46_32 rfl rfl
theorem q_46_33 : XX (d + 1) 46 33 [v0, v1, v2, v3] [.int x1, .ref a0, .int x2, .ref a3, .int x4, .int x5, .ref a6] (mk S I L R G) Q ↔ S a0 = some (.inr 4) ∧ XC d 32 [.ref a0, .int x1] (mk S I L R G) (XK (d + 1) 46 33 [v0, v1, v2, v3] [.int x2, .ref a3, .int x4, .int x5, .ref a6] Q) := c_callV i_46_33 rfl rfl rfl rfl (Nat.le_of_ble_eq_true rfl) (Nat.le_of_ble_eq_true rfl) rfl
theorem q_46_36 : XX (d + 1) 46 36 [v0, v1, v2, v3] [.int x5, .int x4, .ref a3, .int x2, .int x1, .ref a0] A Q ↔ XC d 151 [.ref a0, .int x1, .int x2, .ref a3, .int x4, .int x5] A (XK (d + 1) 46 36 [v0, v1, v2, v3] [] Q) := c_callS i_46_36 rfl rfl rfl rfl (Nat.le_of_ble_eq_true rfl) (Nat.le_of_ble_eq_true rfl)
theorem q_46_39 : XX d 46 39 [v0, v1, v2, v3] [.int x] A Q ↔ Q (.inl (some (.int x))) A := e_retI i_46_39 rfl
theorem q_46_e : XC d 46 [.ref a0, .int x1, .int x2] A Q ↔ XX d 46 0 [some (.ref a0), some (.int x1), some (.int x2), none] [] A Q := Iff.rfl
theorem i_47_0 : t_ins 47 0 = some (.iload_n 1) := by decide +kernel
theorem i_47_1 : t_ins 47 1 = some (.ifCond .lt 20) := by decide +kernel
theorem i_47_4 : t_ins 47 4 = some (.iload_n 1) := by decide +kernel
theorem i_47_5 : t_ins 47 5 = some (.aload_n 0) := by decide +kernel
theorem i_47_6 : t_ins 47 6 = some (.getfield 25) := by decide +kernel
theorem i_47_9 : t_ins 47 9 = some (.if_icmp .ge 12) := by decide +kernel
theorem i_47_12 : t_ins 47 12 = some (.aload_n 0) := by decide +kernel
theorem i_47_13 : t_ins 47 13 = some (.getfield 18) := by decide +kernel
theorem i_47_16 : t_ins 47 16 = some (.iload_n 1) := by decide +kernel
theorem i_47_17 : t_ins 47 17 = some (.iaload) := by decide +kernel
theorem i_47_18 : t_ins 47 18 = some (.goto 4) := by decide +kernel
theorem i_47_21 : t_ins 47 21 = some (.iconst (-1)) := by decide +kernel
theorem i_47_22 : t_ins 47 22 = some (.ireturn) := by decide +kernel
theorem q_47_0 : XX d 47 0 [v0, some (.int x)] st A Q ↔ XX d 47 1 [v0, some (.int x)] (.int x :: st) A Q := c_lcl i_47_0 rfl rfl
theorem q_47_1 : XX d 47 1 [v0, v1] (.int x :: st) A Q ↔ if x < w 0 then XX d 47 21 [v0, v1] st A Q else XX d 47 4 [v0, v1] st A Q := z_lt i_47_1 rfl rfl rfl
theorem q_47_4 : XX d 47 4 [v0, some (.int x)] st A Q ↔ XX d 47 5 [v0, some (.int x)] (.int x :: st) A Q := c_lcl i_47_4 rfl rfl
theorem q_47_5 : XX d 47 5 [some (.ref a), v1] st A Q ↔ XX d 47 6 [some (.ref a), v1] (.ref a :: st) A Q := c_lcl i_47_5 rfl rfl
theorem q_47_6 : XX d 47 6 [v0, v1] (.ref a :: st) (mk S I L R G) Q ↔ S a = some (.inr 5) ∧ XX d 47 9 [v0, v1] (.int (I a 3) :: st) (mk S I L R G) Q := r_gf i_47_6 rfl (by decide) rfl
theorem q_47_9 : XX d 47 9 [v0, v1] (.int y :: .int x :: st) A Q ↔ if x < y then XX d 47 12 [v0, v1] st A Q else XX d 47 21 [v0, v1] st A Q := b_ge i_47_9 rfl rfl rfl
theorem q_47_12 : XX d 47 12 [some (.ref a), v1] st A Q ↔ XX d 47 13 [some (.ref a), v1] (.ref a :: st) A Q := c_lcl i_47_12 rfl rfl
theorem q_47_13 : XX d 47 13 [v0, v1] (.ref a :: st) (mk S I L R G) Q ↔ S a = some (.inr 5) ∧ XX d 47 16 [v0, v1] (.ref (a + 18) :: st) (mk S I L R G) Q := r_gf i_47_13 rfl (by decide) rfl
theorem q_47_16 : XX d 47 16 [v0, some (.int x)] st A Q ↔ XX d 47 17 [v0, some (.int x)] (.int x :: st) A Q := c_lcl i_47_16 rfl rfl
theorem q_47_17 : XX d 47 17 [v0, v1] (.int x :: .ref a :: st) (mk S I L R G) Q ↔ inA (S a) ok_i x ∧ XX d 47 18 [v0, v1] (.int (I a (ix x)) :: st) (mk S I L R G) Q := r_ia i_47_17
theorem q_47_18 : XX d 47 18 [v0, v1] st A Q ↔ XX d 47 22 [v0, v1] st A Q := c_go i_47_18 rfl rfl
theorem q_47_21 : XX d 47 21 [v0, v1] st A Q ↔ XX d 47 22 [v0, v1] (.int (w (-1)) :: st) A Q := c_stk i_47_21 rfl
theorem q_47_22 : XX d 47 22 [v0, v1] [.int x] A Q ↔ Q (.inl (some (.int x))) A := e_retI i_47_22 rfl
theorem q_47_e : XC d 47 [.ref a0, .int x1] A Q ↔ XX d 47 0 [some (.ref a0), some (.int x1)] [] A Q := Iff.rfl
theorem i_48_0 : t_ins 48 0 = some (.aload_n 0) := by decide +kernel
theorem i_48_1 : t_ins 48 1 = some (.aload_n 0) := by decide +kernel
theorem i_48_2 : t_ins 48 2 = some (.aload_n 1) := by decide +kernel
theorem i_48_3 : t_ins 48 3 = some (.iload_n 2) := by decide +kernel
theorem i_48_4 : t_ins 48 4 = some (.iload_n 3) := by decide +kernel
theorem i_48_5 : t_ins 48 5 = some (.iconst 0) := by decide +kernel
theorem i_48_6 : t_ins 48 6 = some (.invokevirtual 97) := by decide +kernel
theorem i_48_9 : t_ins 48 9 = some (.putfield 32) := by decide +kernel
theorem i_48_12 : t_ins 48 12 = some (.aload_n 0) := by decide +kernel
theorem i_48_13 : t_ins 48 13 = some (.aload_n 0) := by decide +kernel
theorem i_48_14 : t_ins 48 14 = some (.aload_n 1) := by decide +kernel
theorem i_48_15 : t_ins 48 15 = some (.iload_n 2) := by decide +kernel
theorem i_48_16 : t_ins 48 16 = some (.iload_n 3) := by decide +kernel
theorem i_48_17 : t_ins 48 17 = some (.iconst 1) := by decide +kernel
theorem i_48_18 : t_ins 48 18 = some (.invokevirtual 97) := by decide +kernel
theorem i_48_21 : t_ins 48 21 = some (.putfield 35) := by decide +kernel
theorem i_48_24 : t_ins 48 24 = some (.aload_n 0) := by decide +kernel
theorem i_48_25 : t_ins 48 25 = some (.getfield 35) := by decide +kernel
theorem i_48_28 : t_ins 48 28 = some (.aload_n 0) := by decide +kernel
theorem i_48_29 : t_ins 48 29 = some (.getfield 32) := by decide +kernel
theorem i_48_32 : t_ins 48 32 = some (.isub) := by decide +kernel
theorem i_48_33 : t_ins 48 33 = some (.ireturn) := by decide +kernel
theorem q_48_0 : XX d 48 0 [some (.ref a), v1, v2, v3] st A Q ↔ XX d 48 1 [some (.ref a), v1, v2, v3] (.ref a :: st) A Q := c_lcl i_48_0 rfl rfl
theorem q_48_1 : XX d 48 1 [some (.ref a), v1, v2, v3] st A Q ↔ XX d 48 2 [some (.ref a), v1, v2, v3] (.ref a :: st) A Q := c_lcl i_48_1 rfl rfl
theorem q_48_2 : XX d 48 2 [v0, some (.ref a), v2, v3] st A Q ↔ XX d 48 3 [v0, some (.ref a), v2, v3] (.ref a :: st) A Q := c_lcl i_48_2 rfl rfl
theorem q_48_3 : XX d 48 3 [v0, v1, some (.int x), v3] st A Q ↔ XX d 48 4 [v0, v1, some (.int x), v3] (.int x :: st) A Q := c_lcl i_48_3 rfl rfl
theorem q_48_4 : XX d 48 4 [v0, v1, v2, some (.int x)] st A Q ↔ XX d 48 5 [v0, v1, v2, some (.int x)] (.int x :: st) A Q := c_lcl i_48_4 rfl rfl
theorem q_48_5 : XX d 48 5 [v0, v1, v2, v3] st A Q ↔ XX d 48 6 [v0, v1, v2, v3] (.int (w 0) :: st) A Q := c_stk i_48_5 rfl
theorem q_48_6 : XX (d + 1) 48 6 [v0, v1, v2, v3] [.int x4, .int x3, .int x2, .ref a1, .ref a0, .ref a5] (mk S I L R G) Q ↔ S a0 = some (.inr 5) ∧ XC d 51 [.ref a0, .ref a1, .int x2, .int x3, .int x4] (mk S I L R G) (XK (d + 1) 48 6 [v0, v1, v2, v3] [.ref a5] Q) := c_callV i_48_6 rfl rfl rfl rfl (Nat.le_of_ble_eq_true rfl) (Nat.le_of_ble_eq_true rfl) rfl
theorem q_48_9 : XX d 48 9 [v0, v1, v2, v3] (.int x :: .ref a :: st) (mk S I L R G) Q ↔ S a = some (.inr 5) ∧ XX d 48 12 [v0, v1, v2, v3] st (mk S (wr I a (up (I a) 5 x)) L R G) Q := r_pf i_48_9 rfl (by decide) rfl rfl rfl
theorem q_48_12 : XX d 48 12 [some (.ref a), v1, v2, v3] st A Q ↔ XX d 48 13 [some (.ref a), v1, v2, v3] (.ref a :: st) A Q := c_lcl i_48_12 rfl rfl
theorem q_48_13 : XX d 48 13 [some (.ref a), v1, v2, v3] st A Q ↔ XX d 48 14 [some (.ref a), v1, v2, v3] (.ref a :: st) A Q := c_lcl i_48_13 rfl rfl
theorem q_48_14 : XX d 48 14 [v0, some (.ref a), v2, v3] st A Q ↔ XX d 48 15 [v0, some (.ref a), v2, v3] (.ref a :: st) A Q := c_lcl i_48_14 rfl rfl
theorem q_48_15 : XX d 48 15 [v0, v1, some (.int x), v3] st A Q ↔ XX d 48 16 [v0, v1, some (.int x), v3] (.int x :: st) A Q := c_lcl i_48_15 rfl rfl
theorem q_48_16 : XX d 48 16 [v0, v1, v2, some (.int x)] st A Q ↔ XX d 48 17 [v0, v1, v2, some (.int x)] (.int x :: st) A Q := c_lcl i_48_16 rfl rfl
theorem q_48_17 : XX d 48 17 [v0, v1, v2, v3] st A Q ↔ XX d 48 18 [v0, v1, v2, v3] (.int (w 1) :: st) A Q := c_stk i_48_17 rfl
theorem q_48_18 : XX (d + 1) 48 18 [v0, v1, v2, v3] [.int x4, .int x3, .int x2, .ref a1, .ref a0, .ref a5] (mk S I L R G) Q ↔ S a0 = some (.inr 5) ∧ XC d 51 [.ref a0, .ref a1, .int x2, .int x3, .int x4] (mk S I L R G) (XK (d + 1) 48 18 [v0, v1, v2, v3] [.ref a5] Q) := c_callV i_48_18 rfl rfl rfl rfl (Nat.le_of_ble_eq_true rfl) (Nat.le_of_ble_eq_true rfl) rfl
theorem q_48_21 : XX d 48 21 [v0, v1, v2, v3] (.int x :: .ref a :: st) (mk S I L R G) Q ↔ S a = some (.inr 5) ∧ XX d 48 24 [v0, v1, v2, v3] st (mk S (wr I a (up (I a) 6 x)) L R G) Q := r_pf i_48_21 rfl (by decide) rfl rfl rfl
theorem q_48_24 : XX d 48 24 [some (.ref a), v1, v2, v3] st A Q ↔ XX d 48 25 [some (.ref a), v1, v2, v3] (.ref a :: st) A Q := c_lcl i_48_24 rfl rfl
theorem q_48_25 : XX d 48 25 [v0, v1, v2, v3] (.ref a :: st) (mk S I L R G) Q ↔ S a = some (.inr 5) ∧ XX d 48 28 [v0, v1, v2, v3] (.int (I a 6) :: st) (mk S I L R G) Q := r_gf i_48_25 rfl (by decide) rfl
theorem q_48_28 : XX d 48 28 [some (.ref a), v1, v2, v3] st A Q ↔ XX d 48 29 [some (.ref a), v1, v2, v3] (.ref a :: st) A Q := c_lcl i_48_28 rfl rfl
theorem q_48_29 : XX d 48 29 [v0, v1, v2, v3] (.ref a :: st) (mk S I L R G) Q ↔ S a = some (.inr 5) ∧ XX d 48 32 [v0, v1, v2, v3] (.int (I a 5) :: st) (mk S I L R G) Q := r_gf i_48_29 rfl (by decide) rfl
theorem q_48_32 : XX d 48 32 [v0, v1, v2, v3] (.int y :: .int x :: st) A Q ↔ XX d 48 33 [v0, v1, v2, v3] (.int (x - y) :: st) A Q := c_stk i_48_32 rfl
theorem q_48_33 : XX d 48 33 [v0, v1, v2, v3] [.int x] A Q ↔ Q (.inl (some (.int x))) A := e_retI i_48_33 rfl
theorem q_48_e : XC d 48 [.ref a0, .ref a1, .int x2, .int x3] A Q ↔ XX d 48 0 [some (.ref a0), some (.ref a1), some (.int x2), some (.int x3)] [] A Q := Iff.rfl
theorem i_49_0 : t_ins 49 0 = some (.aload_n 0) := by decide +kernel
theorem i_49_1 : t_ins 49 1 = some (.getfield 32) := by decide +kernel
theorem i_49_4 : t_ins 49 4 = some (.aload_n 0) := by decide +kernel
theorem i_49_5 : t_ins 49 5 = some (.getfield 35) := by decide +kernel
theorem i_49_8 : t_ins 49 8 = some (.if_icmp .ge 14) := by decide +kernel
theorem i_49_11 : t_ins 49 11 = some (.aload_n 0) := by decide +kernel
theorem i_49_12 : t_ins 49 12 = some (.aload_n 0) := by decide +kernel
theorem i_49_13 : t_ins 49 13 = some (.getfield 32) := by decide +kernel
theorem i_49_16 : t_ins 49 16 = some (.invokevirtual 101) := by decide +kernel
theorem i_49_19 : t_ins 49 19 = some (.goto 4) := by decide +kernel
theorem i_49_22 : t_ins 49 22 = some (.iconst (-1)) := by decide +kernel
theorem i_49_23 : t_ins 49 23 = some (.ireturn) := by decide +kernel
theorem q_49_0 : XX d 49 0 [some (.ref a)] st A Q ↔ XX d 49 1 [some (.ref a)] (.ref a :: st) A Q := c_lcl i_49_0 rfl rfl
theorem q_49_1 : XX d 49 1 [v0] (.ref a :: st) (mk S I L R G) Q ↔ S a = some (.inr 5) ∧ XX d 49 4 [v0] (.int (I a 5) :: st) (mk S I L R G) Q := r_gf i_49_1 rfl (by decide) rfl
theorem q_49_4 : XX d 49 4 [some (.ref a)] st A Q ↔ XX d 49 5 [some (.ref a)] (.ref a :: st) A Q := c_lcl i_49_4 rfl rfl
theorem q_49_5 : XX d 49 5 [v0] (.ref a :: st) (mk S I L R G) Q ↔ S a = some (.inr 5) ∧ XX d 49 8 [v0] (.int (I a 6) :: st) (mk S I L R G) Q := r_gf i_49_5 rfl (by decide) rfl
theorem q_49_8 : XX d 49 8 [v0] (.int y :: .int x :: st) A Q ↔ if x < y then XX d 49 11 [v0] st A Q else XX d 49 22 [v0] st A Q := b_ge i_49_8 rfl rfl rfl
theorem q_49_11 : XX d 49 11 [some (.ref a)] st A Q ↔ XX d 49 12 [some (.ref a)] (.ref a :: st) A Q := c_lcl i_49_11 rfl rfl
theorem q_49_12 : XX d 49 12 [some (.ref a)] st A Q ↔ XX d 49 13 [some (.ref a)] (.ref a :: st) A Q := c_lcl i_49_12 rfl rfl
theorem q_49_13 : XX d 49 13 [v0] (.ref a :: st) (mk S I L R G) Q ↔ S a = some (.inr 5) ∧ XX d 49 16 [v0] (.int (I a 5) :: st) (mk S I L R G) Q := r_gf i_49_13 rfl (by decide) rfl
theorem q_49_16 : XX (d + 1) 49 16 [v0] [.int x1, .ref a0] (mk S I L R G) Q ↔ S a0 = some (.inr 5) ∧ XC d 47 [.ref a0, .int x1] (mk S I L R G) (XK (d + 1) 49 16 [v0] [] Q) := c_callV i_49_16 rfl rfl rfl rfl (Nat.le_of_ble_eq_true rfl) (Nat.le_of_ble_eq_true rfl) rfl
theorem q_49_19 : XX d 49 19 [v0] st A Q ↔ XX d 49 23 [v0] st A Q := c_go i_49_19 rfl rfl
theorem q_49_22 : XX d 49 22 [v0] st A Q ↔ XX d 49 23 [v0] (.int (w (-1)) :: st) A Q := c_stk i_49_22 rfl
theorem q_49_23 : XX d 49 23 [v0] [.int x] A Q ↔ Q (.inl (some (.int x))) A := e_retI i_49_23 rfl
theorem q_49_e : XC d 49 [.ref a0] A Q ↔ XX d 49 0 [some (.ref a0)] [] A Q := Iff.rfl
theorem i_50_0 : t_ins 50 0 = some (.aload_n 0) := by decide +kernel
theorem i_50_1 : t_ins 50 1 = some (.getfield 32) := by decide +kernel
theorem i_50_4 : t_ins 50 4 = some (.aload_n 0) := by decide +kernel
theorem i_50_5 : t_ins 50 5 = some (.getfield 35) := by decide +kernel
theorem i_50_8 : t_ins 50 8 = some (.if_icmp .ge 16) := by decide +kernel
theorem i_50_11 : t_ins 50 11 = some (.aload_n 0) := by decide +kernel
theorem i_50_12 : t_ins 50 12 = some (.aload_n 0) := by decide +kernel
theorem i_50_13 : t_ins 50 13 = some (.getfield 35) := by decide +kernel
theorem i_50_16 : t_ins 50 16 = some (.iconst 1) := by decide +kernel
theorem i_50_17 : t_ins 50 17 = some (.isub) := by decide +kernel
theorem i_50_18 : t_ins 50 18 = some (.invokevirtual 101) := by decide +kernel
theorem i_50_21 : t_ins 50 21 = some (.goto 4) := by decide +kernel
theorem i_50_24 : t_ins 50 24 = some (.iconst (-1)) := by decide +kernel
theorem i_50_25 : t_ins 50 25 = some (.ireturn) := by decide +kernel
theorem q_50_0 : XX d 50 0 [some (.ref a)] st A Q ↔ XX d 50 1 [some (.ref a)] (.ref a :: st) A Q := c_lcl i_50_0 rfl rfl
theorem q_50_1 : XX d 50 1 [v0] (.ref a :: st) (mk S I L R G) Q ↔ S a = some (.inr 5) ∧ XX d 50 4 [v0] (.int (I a 5) :: st) (mk S I L R G) Q := r_gf i_50_1 rfl (by decide) rfl
theorem q_50_4 : XX d 50 4 [some (.ref a)] st A Q ↔ XX d 50 5 [some (.ref a)] (.ref a :: st) A Q := c_lcl i_50_4 rfl rfl
theorem q_50_5 : XX d 50 5 [v0] (.ref a :: st) (mk S I L R G) Q ↔ S a = some (.inr 5) ∧ XX d 50 8 [v0] (.int (I a 6) :: st) (mk S I L R G) Q := r_gf i_50_5 rfl (by decide) rfl
theorem q_50_8 : XX d 50 8 [v0] (.int y :: .int x :: st) A Q ↔ if x < y then XX d 50 11 [v0] st A Q else XX d 50 24 [v0] st A Q := b_ge i_50_8 rfl rfl rfl
theorem q_50_11 : XX d 50 11 [some (.ref a)] st A Q ↔ XX d 50 12 [some (.ref a)] (.ref a :: st) A Q := c_lcl i_50_11 rfl rfl
theorem q_50_12 : XX d 50 12 [some (.ref a)] st A Q ↔ XX d 50 13 [some (.ref a)] (.ref a :: st) A Q := c_lcl i_50_12 rfl rfl
theorem q_50_13 : XX d 50 13 [v0] (.ref a :: st) (mk S I L R G) Q ↔ S a = some (.inr 5) ∧ XX d 50 16 [v0] (.int (I a 6) :: st) (mk S I L R G) Q := r_gf i_50_13 rfl (by decide) rfl
theorem q_50_16 : XX d 50 16 [v0] st A Q ↔ XX d 50 17 [v0] (.int (w 1) :: st) A Q := c_stk i_50_16 rfl
theorem q_50_17 : XX d 50 17 [v0] (.int y :: .int x :: st) A Q ↔ XX d 50 18 [v0] (.int (x - y) :: st) A Q := c_stk i_50_17 rfl
theorem q_50_18 : XX (d + 1) 50 18 [v0] [.int x1, .ref a0] (mk S I L R G) Q ↔ S a0 = some (.inr 5) ∧ XC d 47 [.ref a0, .int x1] (mk S I L R G) (XK (d + 1) 50 18 [v0] [] Q) := c_callV i_50_18 rfl rfl rfl rfl (Nat.le_of_ble_eq_true rfl) (Nat.le_of_ble_eq_true rfl) rfl
theorem q_50_21 : XX d 50 21 [v0] st A Q ↔ XX d 50 25 [v0] st A Q := c_go i_50_21 rfl rfl
theorem q_50_24 : XX d 50 24 [v0] st A Q ↔ XX d 50 25 [v0] (.int (w (-1)) :: st) A Q := c_stk i_50_24 rfl
theorem q_50_25 : XX d 50 25 [v0] [.int x] A Q ↔ Q (.inl (some (.int x))) A := e_retI i_50_25 rfl
theorem q_50_e : XC d 50 [.ref a0] A Q ↔ XX d 50 0 [some (.ref a0)] [] A Q := Iff.rfl
theorem i_51_0 : t_ins 51 0 = some (.aload_n 0) := by decide +kernel
theorem i_51_1 : t_ins 51 1 = some (.getfield 12) := by decide +kernel
theorem i_51_4 : t_ins 51 4 = some (.getfield 76) := by decide +kernel
theorem i_51_7 : t_ins 51 7 = some (.astore 5) := by decide +kernel
theorem i_51_9 : t_ins 51 9 = some (.iconst 0) := by decide +kernel
theorem i_51_10 : t_ins 51 10 = some (.istore 6) := by decide +kernel
theorem i_51_12 : t_ins 51 12 = some (.aload_n 0) := by decide +kernel
theorem i_51_13 : t_ins 51 13 = some (.getfield 25) := by decide +kernel
theorem i_51_16 : t_ins 51 16 = some (.istore 7) := by decide +kernel
theorem i_51_18 : t_ins 51 18 = some (.iconst 0) := by decide +kernel
theorem i_51_19 : t_ins 51 19 = some (.istore 8) := by decide +kernel
theorem i_51_21 : t_ins 51 21 = some (.iload 8) := by decide +kernel
theorem i_51_23 : t_ins 51 23 = some (.sipush 1000) := by decide +kernel
theorem i_51_26 : t_ins 51 26 = some (.if_icmp .gt 88) := by decide +kernel
theorem i_51_29 : t_ins 51 29 = some (.iload 6) := by decide +kernel
theorem i_51_31 : t_ins 51 31 = some (.iload 7) := by decide +kernel
theorem i_51_33 : t_ins 51 33 = some (.if_icmp .ge 81) := by decide +kernel
theorem i_51_36 : t_ins 51 36 = some (.iload 6) := by decide +kernel
theorem i_51_38 : t_ins 51 38 = some (.iload 7) := by decide +kernel
theorem i_51_40 : t_ins 51 40 = some (.iadd) := by decide +kernel
theorem i_51_41 : t_ins 51 41 = some (.iconst 2) := by decide +kernel
theorem i_51_42 : t_ins 51 42 = some (.idiv) := by decide +kernel
theorem i_51_43 : t_ins 51 43 = some (.istore 9) := by decide +kernel
theorem i_51_45 : t_ins 51 45 = some (.aload_n 0) := by decide +kernel
theorem i_51_46 : t_ins 51 46 = some (.iload 9) := by decide +kernel
theorem i_51_48 : t_ins 51 48 = some (.invokevirtual 101) := by decide +kernel
theorem i_51_51 : t_ins 51 51 = some (.istore 10) := by decide +kernel
theorem i_51_53 : t_ins 51 53 = some (.aload 5) := by decide +kernel
theorem i_51_55 : t_ins 51 55 = some (.getfield 80) := by decide +kernel
theorem i_51_58 : t_ins 51 58 = some (.aload 5) := by decide +kernel
theorem i_51_60 : t_ins 51 60 = some (.iload 10) := by decide +kernel
theorem i_51_62 : t_ins 51 62 = some (.invokevirtual 86) := by decide +kernel
theorem i_51_65 : t_ins 51 65 = some (.aload 5) := by decide +kernel
theorem i_51_67 : t_ins 51 67 = some (.iload 10) := by decide +kernel
theorem i_51_69 : t_ins 51 69 = some (.invokevirtual 90) := by decide +kernel
theorem i_51_72 : t_ins 51 72 = some (.aload_n 1) := by decide +kernel
theorem i_51_73 : t_ins 51 73 = some (.iload_n 2) := by decide +kernel
theorem i_51_74 : t_ins 51 74 = some (.iload_n 3) := by decide +kernel
theorem i_51_75 : t_ins 51 75 = some (.invokestatic 93) := by decide +kernel
theorem i_51_78 : t_ins 51 78 = some (.istore 11) := by decide +kernel
theorem i_51_80 : t_ins 51 80 = some (.iload 11) := by decide +kernel
theorem i_51_82 : t_ins 51 82 = some (.ifCond .lt 13) := by decide +kernel
theorem i_51_85 : t_ins 51 85 = some (.iload 4) := by decide +kernel
theorem i_51_87 : t_ins 51 87 = some (.ifCond .eq 17) := by decide +kernel
theorem i_51_90 : t_ins 51 90 = some (.iload 11) := by decide +kernel
theorem i_51_92 : t_ins 51 92 = some (.ifCond .ne 12) := by decide +kernel
theorem i_51_95 : t_ins 51 95 = some (.iload 9) := by decide +kernel
theorem i_51_97 : t_ins 51 97 = some (.iconst 1) := by decide +kernel
theorem i_51_98 : t_ins 51 98 = some (.iadd) := by decide +kernel
theorem i_51_99 : t_ins 51 99 = some (.istore 6) := by decide +kernel
theorem i_51_101 : t_ins 51 101 = some (.goto 7) := by decide +kernel
theorem i_51_104 : t_ins 51 104 = some (.iload 9) := by decide +kernel
theorem i_51_106 : t_ins 51 106 = some (.istore 7) := by decide +kernel
theorem i_51_108 : t_ins 51 108 = some (.iinc 8 1) := by decide +kernel
theorem i_51_111 : t_ins 51 111 = some (.goto (-90)) := by decide +kernel
theorem i_51_114 : t_ins 51 114 = some (.iload 6) := by decide +kernel
theorem i_51_116 : t_ins 51 116 = some (.ireturn) := by decide +kernel
theorem q_51_0 : XX d 51 0 [some (.ref a), v1, v2, v3, v4, v5, v6, v7, v8, v9, v10, v11] st A Q ↔ XX d 51 1 [some (.ref a), v1, v2, v3, v4, v5, v6, v7, v8, v9, v10, v11] (.ref a :: st) A Q := c_lcl i_51_0 rfl rfl
theorem q_51_1 : XX d 51 1 [v0, v1, v2, v3, v4, v5, v6, v7, v8, v9, v10, v11] (.ref a :: st) (mk S I L R G) Q ↔ S a = some (.inr 5) ∧ XX d 51 4 [v0, v1, v2, v3, v4, v5, v6, v7, v8, v9, v10, v11] (.ref (a + 1) :: st) (mk S I L R G) Q := r_gf i_51_1 rfl (by decide) rfl
theorem q_51_4 : XX d 51 4 [v0, v1, v2, v3, v4, v5, v6, v7, v8, v9, v10, v11] (.ref a :: st) (mk S I L R G) Q ↔ S a = some (.inr 9) ∧ XX d 51 7 [v0, v1, v2, v3, v4, v5, v6, v7, v8, v9, v10, v11] (.ref (a + 1) :: st) (mk S I L R G) Q := r_gf i_51_4 rfl (by decide) rfl
theorem q_51_7 : XX d 51 7 [v0, v1, v2, v3, some (.int z), v5, v6, v7, v8, v9, v10, v11] (.ref a :: st) A Q ↔ XX d 51 9 [v0, v1, v2, v3, some (.int z), some (.ref a), v6, v7, v8, v9, v10, v11] st A Q := c_lcl i_51_7 rfl rfl
theorem q_51_9 : XX d 51 9 [v0, v1, v2, v3, v4, v5, v6, v7, v8, v9, v10, v11] st A Q ↔ XX d 51 10 [v0, v1, v2, v3, v4, v5, v6, v7, v8, v9, v10, v11] (.int (w 0) :: st) A Q := c_stk i_51_9 rfl
theorem q_51_10 : XX d 51 10 [v0, v1, v2, v3, v4, some (.ref b), v6, v7, v8, v9, v10, v11] (.int x :: st) A Q ↔ XX d 51 12 [v0, v1, v2, v3, v4, some (.ref b), some (.int x), v7, v8, v9, v10, v11] st A Q := c_lcl i_51_10 rfl rfl
theorem q_51_12 : XX d 51 12 [some (.ref a), v1, v2, v3, v4, v5, v6, v7, v8, v9, v10, v11] st A Q ↔ XX d 51 13 [some (.ref a), v1, v2, v3, v4, v5, v6, v7, v8, v9, v10, v11] (.ref a :: st) A Q := c_lcl i_51_12 rfl rfl
theorem q_51_13 : XX d 51 13 [v0, v1, v2, v3, v4, v5, v6, v7, v8, v9, v10, v11] (.ref a :: st) (mk S I L R G) Q ↔ S a = some (.inr 5) ∧ XX d 51 16 [v0, v1, v2, v3, v4, v5, v6, v7, v8, v9, v10, v11] (.int (I a 3) :: st) (mk S I L R G) Q := r_gf i_51_13 rfl (by decide) rfl
theorem q_51_16 : XX d 51 16 [v0, v1, v2, v3, v4, v5, some (.int z), v7, v8, v9, v10, v11] (.int x :: st) A Q ↔ XX d 51 18 [v0, v1, v2, v3, v4, v5, some (.int z), some (.int x), v8, v9, v10, v11] st A Q := c_lcl i_51_16 rfl rfl
theorem q_51_18 : XX d 51 18 [v0, v1, v2, v3, v4, v5, v6, v7, v8, v9, v10, v11] st A Q ↔ XX d 51 19 [v0, v1, v2, v3, v4, v5, v6, v7, v8, v9, v10, v11] (.int (w 0) :: st) A Q := c_stk i_51_18 rfl
theorem q_51_19 : XX d 51 19 [v0, v1, v2, v3, v4, v5, v6, some (.int z), v8, v9, v10, v11] (.int x :: st) A Q ↔ XX d 51 21 [v0, v1, v2, v3, v4, v5, v6, some (.int z), some (.int x), v9, v10, v11] st A Q := c_lcl i_51_19 rfl rfl
theorem q_51_21 : XX d 51 21 [v0, v1, v2, v3, v4, v5, v6, v7, some (.int x), v9, v10, v11] st A Q ↔ XX d 51 23 [v0, v1, v2, v3, v4, v5, v6, v7, some (.int x), v9, v10, v11] (.int x :: st) A Q := c_lcl i_51_21 rfl rfl
theorem q_51_23 : XX d 51 23 [v0, v1, v2, v3, v4, v5, v6, v7, v8, v9, v10, v11] st A Q ↔ XX d 51 26 [v0, v1, v2, v3, v4, v5, v6, v7, v8, v9, v10, v11] (.int (w 1000) :: st) A Q := c_stk i_51_23 rfl
theorem q_51_26 : XX d 51 26 [v0, v1, v2, v3, v4, v5, v6, v7, v8, v9, v10, v11] (.int y :: .int x :: st) A Q ↔ if y < x then XX d 51 114 [v0, v1, v2, v3, v4, v5, v6, v7, v8, v9, v10, v11] st A Q else XX d 51 29 [v0, v1, v2, v3, v4, v5, v6, v7, v8, v9, v10, v11] st A Q := b_gt i_51_26 rfl rfl rfl
theorem q_51_29 : XX d 51 29 [v0, v1, v2, v3, v4, v5, some (.int x), v7, v8, v9, v10, v11] st A Q ↔ XX d 51 31 [v0, v1, v2, v3, v4, v5, some (.int x), v7, v8, v9, v10, v11] (.int x :: st) A Q := c_lcl i_51_29 rfl rfl
theorem q_51_31 : XX d 51 31 [v0, v1, v2, v3, v4, v5, v6, some (.int x), v8, v9, v10, v11] st A Q ↔ XX d 51 33 [v0, v1, v2, v3, v4, v5, v6, some (.int x), v8, v9, v10, v11] (.int x :: st) A Q := c_lcl i_51_31 rfl rfl
theorem q_51_33 : XX d 51 33 [v0, v1, v2, v3, v4, v5, v6, v7, v8, v9, v10, v11] (.int y :: .int x :: st) A Q ↔ if x < y then XX d 51 36 [v0, v1, v2, v3, v4, v5, v6, v7, v8, v9, v10, v11] st A Q else XX d 51 114 [v0, v1, v2, v3, v4, v5, v6, v7, v8, v9, v10, v11] st A Q := b_ge i_51_33 rfl rfl rfl
theorem q_51_36 : XX d 51 36 [v0, v1, v2, v3, v4, v5, some (.int x), v7, v8, v9, v10, v11] st A Q ↔ XX d 51 38 [v0, v1, v2, v3, v4, v5, some (.int x), v7, v8, v9, v10, v11] (.int x :: st) A Q := c_lcl i_51_36 rfl rfl
theorem q_51_38 : XX d 51 38 [v0, v1, v2, v3, v4, v5, v6, some (.int x), v8, v9, v10, v11] st A Q ↔ XX d 51 40 [v0, v1, v2, v3, v4, v5, v6, some (.int x), v8, v9, v10, v11] (.int x :: st) A Q := c_lcl i_51_38 rfl rfl
theorem q_51_40 : XX d 51 40 [v0, v1, v2, v3, v4, v5, v6, v7, v8, v9, v10, v11] (.int y :: .int x :: st) A Q ↔ XX d 51 41 [v0, v1, v2, v3, v4, v5, v6, v7, v8, v9, v10, v11] (.int (x + y) :: st) A Q := c_stk i_51_40 rfl
theorem q_51_41 : XX d 51 41 [v0, v1, v2, v3, v4, v5, v6, v7, v8, v9, v10, v11] st A Q ↔ XX d 51 42 [v0, v1, v2, v3, v4, v5, v6, v7, v8, v9, v10, v11] (.int (w 2) :: st) A Q := c_stk i_51_41 rfl
theorem q_51_42 : XX d 51 42 [v0, v1, v2, v3, v4, v5, v6, v7, v8, v9, v10, v11] (.int y :: .int x :: st) A Q ↔ ¬ y = w 0 ∧ XX d 51 43 [v0, v1, v2, v3, v4, v5, v6, v7, v8, v9, v10, v11] (.int (x / y) :: st) A Q := c_div i_51_42
theorem q_51_43 : XX d 51 43 [v0, v1, v2, v3, v4, v5, v6, v7, some (.int z), v9, v10, v11] (.int x :: st) A Q ↔ XX d 51 45 [v0, v1, v2, v3, v4, v5, v6, v7, some (.int z), some (.int x), v10, v11] st A Q := c_lcl i_51_43 rfl rfl
theorem q_51_45 : XX d 51 45 [some (.ref a), v1, v2, v3, v4, v5, v6, v7, v8, v9, v10, v11] st A Q ↔ XX d 51 46 [some (.ref a), v1, v2, v3, v4, v5, v6, v7, v8, v9, v10, v11] (.ref a :: st) A Q := c_lcl i_51_45 rfl rfl
theorem q_51_46 : XX d 51 46 [v0, v1, v2, v3, v4, v5, v6, v7, v8, some (.int x), v10, v11] st A Q ↔ XX d 51 48 [v0, v1, v2, v3, v4, v5, v6, v7, v8, some (.int x), v10, v11] (.int x :: st) A Q := c_lcl i_51_46 rfl rfl
theorem q_51_48 : XX (d + 1) 51 48 [v0, v1, v2, v3, v4, v5, v6, v7, v8, v9, v10, v11] [.int x1, .ref a0] (mk S I L R G) Q ↔ S a0 = some (.inr 5) ∧ XC d 47 [.ref a0, .int x1] (mk S I L R G) (XK (d + 1) 51 48 [v0, v1, v2, v3, v4, v5, v6, v7, v8, v9, v10, v11] [] Q) := c_callV i_51_48 rfl rfl rfl rfl (Nat.le_of_ble_eq_true rfl) (Nat.le_of_ble_eq_true rfl) rfl
theorem q_51_51 : XX d 51 51 [v0, v1, v2, v3, v4, v5, v6, v7, v8, some (.int z), v10, v11] (.int x :: st) A Q ↔ XX d 51 53 [v0, v1, v2, v3, v4, v5, v6, v7, v8, some (.int z), some (.int x), v11] st A Q := c_lcl i_51_51 rfl rfl
theorem q_51_53 : XX d 51 53 [v0, v1, v2, v3, v4, some (.ref a), v6, v7, v8, v9, v10, v11] st A Q ↔ XX d 51 55 [v0, v1, v2, v3, v4, some (.ref a), v6, v7, v8, v9, v10, v11] (.ref a :: st) A Q := c_lcl i_51_53 rfl rfl
theorem q_51_55 : XX d 51 55 [v0, v1, v2, v3, v4, v5, v6, v7, v8, v9, v10, v11] (.ref a :: st) (mk S I L R G) Q ↔ S a = some (.inr 4) ∧ XX d 51 58 [v0, v1, v2, v3, v4, v5, v6, v7, v8, v9, v10, v11] (.ref (a + 1) :: st) (mk S I L R G) Q := r_gf i_51_55 rfl (by decide) rfl
theorem q_51_58 : XX d 51 58 [v0, v1, v2, v3, v4, some (.ref a), v6, v7, v8, v9, v10, v11] st A Q ↔ XX d 51 60 [v0, v1, v2, v3, v4, some (.ref a), v6, v7, v8, v9, v10, v11] (.ref a :: st) A Q := c_lcl i_51_58 rfl rfl
theorem q_51_60 : XX d 51 60 [v0, v1, v2, v3, v4, v5, v6, v7, v8, v9, some (.int x), v11] st A Q ↔ XX d 51 62 [v0, v1, v2, v3, v4, v5, v6, v7, v8, v9, some (.int x), v11] (.int x :: st) A Q := c_lcl i_51_60 rfl rfl
theorem q_51_62 : XX (d + 1) 51 62 [v0, v1, v2, v3, v4, v5, v6, v7, v8, v9, v10, v11] [.int x1, .ref a0, .ref a2] (mk S I L R G) Q ↔ S a0 = some (.inr 4) ∧ XC d 31 [.ref a0, .int x1] (mk S I L R G) (XK (d + 1) 51 62 [v0, v1, v2, v3, v4, v5, v6, v7, v8, v9, v10, v11] [.ref a2] Q) := c_callV i_51_62 rfl rfl rfl rfl (Nat.le_of_ble_eq_true rfl) (Nat.le_of_ble_eq_true rfl) rfl
theorem q_51_65 : XX d 51 65 [v0, v1, v2, v3, v4, some (.ref a), v6, v7, v8, v9, v10, v11] st A Q ↔ XX d 51 67 [v0, v1, v2, v3, v4, some (.ref a), v6, v7, v8, v9, v10, v11] (.ref a :: st) A Q := c_lcl i_51_65 rfl rfl
theorem q_51_67 : XX d 51 67 [v0, v1, v2, v3, v4, v5, v6, v7, v8, v9, some (.int x), v11] st A Q ↔ XX d 51 69 [v0, v1, v2, v3, v4, v5, v6, v7, v8, v9, some (.int x), v11] (.int x :: st) A Q := c_lcl i_51_67 rfl rfl
theorem q_51_69 : XX (d + 1) 51 69 [v0, v1, v2, v3, v4, v5, v6, v7, v8, v9, v10, v11] [.int x1, .ref a0, .int x2, .ref a3] (mk S I L R G) Q ↔ S a0 = some (.inr 4) ∧ XC d 32 [.ref a0, .int x1] (mk S I L R G) (XK (d + 1) 51 69 [v0, v1, v2, v3, v4, v5, v6, v7, v8, v9, v10, v11] [.int x2, .ref a3] Q) := c_callV i_51_69 rfl rfl rfl rfl (Nat.le_of_ble_eq_true rfl) (Nat.le_of_ble_eq_true rfl) rfl
theorem q_51_72 : XX d 51 72 [v0, some (.ref a), v2, v3, v4, v5, v6, v7, v8, v9, v10, v11] st A Q ↔ XX d 51 73 [v0, some (.ref a), v2, v3, v4, v5, v6, v7, v8, v9, v10, v11] (.ref a :: st) A Q := c_lcl i_51_72 rfl rfl
theorem q_51_73 : XX d 51 73 [v0, v1, some (.int x), v3, v4, v5, v6, v7, v8, v9, v10, v11] st A Q ↔ XX d 51 74 [v0, v1, some (.int x), v3, v4, v5, v6, v7, v8, v9, v10, v11] (.int x :: st) A Q := c_lcl i_51_73 rfl rfl
theorem q_51_74 : XX d 51 74 [v0, v1, v2, some (.int x), v4, v5, v6, v7, v8, v9, v10, v11] st A Q ↔ XX d 51 75 [v0, v1, v2, some (.int x), v4, v5, v6, v7, v8, v9, v10, v11] (.int x :: st) A Q := c_lcl i_51_74 rfl rfl
theorem q_51_75 : XX (d + 1) 51 75 [v0, v1, v2, v3, v4, v5, v6, v7, v8, v9, v10, v11] [.int x5, .int x4, .ref a3, .int x2, .int x1, .ref a0] A Q ↔ XC d 151 [.ref a0, .int x1, .int x2, .ref a3, .int x4, .int x5] A (XK (d + 1) 51 75 [v0, v1, v2, v3, v4, v5, v6, v7, v8, v9, v10, v11] [] Q) := c_callS i_51_75 rfl rfl rfl rfl (Nat.le_of_ble_eq_true rfl) (Nat.le_of_ble_eq_true rfl)
theorem q_51_78 : XX d 51 78 [v0, v1, v2, v3, v4, v5, v6, v7, v8, v9, some (.int z), v11] (.int x :: st) A Q ↔ XX d 51 80 [v0, v1, v2, v3, v4, v5, v6, v7, v8, v9, some (.int z), some (.int x)] st A Q := c_lcl i_51_78 rfl rfl
theorem q_51_80 : XX d 51 80 [v0, v1, v2, v3, v4, v5, v6, v7, v8, v9, v10, some (.int x)] st A Q ↔ XX d 51 82 [v0, v1, v2, v3, v4, v5, v6, v7, v8, v9, v10, some (.int x)] (.int x :: st) A Q := c_lcl i_51_80 rfl rfl
theorem q_51_82 : XX d 51 82 [v0, v1, v2, v3, v4, v5, v6, v7, v8, v9, v10, v11] (.int x :: st) A Q ↔ if x < w 0 then XX d 51 95 [v0, v1, v2, v3, v4, v5, v6, v7, v8, v9, v10, v11] st A Q else XX d 51 85 [v0, v1, v2, v3, v4, v5, v6, v7, v8, v9, v10, v11] st A Q := z_lt i_51_82 rfl rfl rfl
theorem q_51_85 : XX d 51 85 [v0, v1, v2, v3, some (.int x), v5, v6, v7, v8, v9, v10, v11] st A Q ↔ XX d 51 87 [v0, v1, v2, v3, some (.int x), v5, v6, v7, v8, v9, v10, v11] (.int x :: st) A Q := c_lcl i_51_85 rfl rfl
theorem q_51_87 : XX d 51 87 [v0, v1, v2, v3, v4, v5, v6, v7, v8, v9, v10, v11] (.int x :: st) A Q ↔ if x = w 0 then XX d 51 104 [v0, v1, v2, v3, v4, v5, v6, v7, v8, v9, v10, v11] st A Q else XX d 51 90 [v0, v1, v2, v3, v4, v5, v6, v7, v8, v9, v10, v11] st A Q := z_eq i_51_87 rfl rfl rfl
theorem q_51_90 : XX d 51 90 [v0, v1, v2, v3, v4, v5, v6, v7, v8, v9, v10, some (.int x)] st A Q ↔ XX d 51 92 [v0, v1, v2, v3, v4, v5, v6, v7, v8, v9, v10, some (.int x)] (.int x :: st) A Q := c_lcl i_51_90 rfl rfl
theorem q_51_92 : XX d 51 92 [v0, v1, v2, v3, v4, v5, v6, v7, v8, v9, v10, v11] (.int x :: st) A Q ↔ if x = w 0 then XX d 51 95 [v0, v1, v2, v3, v4, v5, v6, v7, v8, v9, v10, v11] st A Q else XX d 51 104 [v0, v1, v2, v3, v4, v5, v6, v7, v8, v9, v10, v11] st A Q := z_ne i_51_92 rfl rfl rfl
theorem q_51_95 : XX d 51 95 [v0, v1, v2, v3, v4, v5, v6, v7, v8, some (.int x), v10, v11] st A Q ↔ XX d 51 97 [v0, v1, v2, v3, v4, v5, v6, v7, v8, some (.int x), v10, v11] (.int x :: st) A Q := c_lcl i_51_95 rfl rfl
theorem q_51_97 : XX d 51 97 [v0, v1, v2, v3, v4, v5, v6, v7, v8, v9, v10, v11] st A Q ↔ XX d 51 98 [v0, v1, v2, v3, v4, v5, v6, v7, v8, v9, v10, v11] (.int (w 1) :: st) A Q := c_stk i_51_97 rfl
theorem q_51_98 : XX d 51 98 [v0, v1, v2, v3, v4, v5, v6, v7, v8, v9, v10, v11] (.int y :: .int x :: st) A Q ↔ XX d 51 99 [v0, v1, v2, v3, v4, v5, v6, v7, v8, v9, v10, v11] (.int (x + y) :: st) A Q := c_stk i_51_98 rfl
theorem q_51_99 : XX d 51 99 [v0, v1, v2, v3, v4, some (.ref b), v6, v7, v8, v9, v10, v11] (.int x :: st) A Q ↔ XX d 51 101 [v0, v1, v2, v3, v4, some (.ref b), some (.int x), v7, v8, v9, v10, v11] st A Q := c_lcl i_51_99 rfl rfl
theorem q_51_101 : XX d 51 101 [v0, v1, v2, v3, v4, v5, v6, v7, v8, v9, v10, v11] st A Q ↔ XX d 51 108 [v0, v1, v2, v3, v4, v5, v6, v7, v8, v9, v10, v11] st A Q := c_go i_51_101 rfl rfl
theorem q_51_104 : XX d 51 104 [v0, v1, v2, v3, v4, v5, v6, v7, v8, some (.int x), v10, v11] st A Q ↔ XX d 51 106 [v0, v1, v2, v3, v4, v5, v6, v7, v8, some (.int x), v10, v11] (.int x :: st) A Q := c_lcl i_51_104 rfl rfl
theorem q_51_106 : XX d 51 106 [v0, v1, v2, v3, v4, v5, some (.int z), v7, v8, v9, v10, v11] (.int x :: st) A Q ↔ XX d 51 108 [v0, v1, v2, v3, v4, v5, some (.int z), some (.int x), v8, v9, v10, v11] st A Q := c_lcl i_51_106 rfl rfl
theorem q_51_108 : XX d 51 108 [v0, v1, v2, v3, v4, v5, v6, some (.int z), some (.int x), v9, v10, v11] st A Q ↔ XX d 51 111 [v0, v1, v2, v3, v4, v5, v6, some (.int z), some (.int (x + w 1)), v9, v10, v11] st A Q := c_lcl i_51_108 rfl rfl
theorem q_51_111 : XX d 51 111 [v0, v1, v2, v3, v4, v5, v6, v7, v8, v9, v10, v11] st A Q ↔ XX d 51 21 [v0, v1, v2, v3, v4, v5, v6, v7, v8, v9, v10, v11] st A Q := c_go i_51_111 rfl rfl
theorem q_51_114 : XX d 51 114 [v0, v1, v2, v3, v4, v5, some (.int x), v7, v8, v9, v10, v11] st A Q ↔ XX d 51 116 [v0, v1, v2, v3, v4, v5, some (.int x), v7, v8, v9, v10, v11] (.int x :: st) A Q := c_lcl i_51_114 rfl rfl
theorem q_51_116 : XX d 51 116 [v0, v1, v2, v3, v4, v5, v6, v7, v8, v9, v10, v11] [.int x] A Q ↔ Q (.inl (some (.int x))) A := e_retI i_51_116 rfl
theorem q_51_e : XC d 51 [.ref a0, .ref a1, .int x2, .int x3, .int x4] A Q ↔ XX d 51 0 [some (.ref a0), some (.ref a1), some (.int x2), some (.int x3), some (.int x4), none, none, none, none, none, none, none] [] A Q := Iff.rfl
theorem i_52_0 : t_ins 52 0 = some (.aload_n 0) := by decide +kernel
theorem i_52_1 : t_ins 52 1 = some (.iconst 0) := by decide +kernel
theorem i_52_2 : t_ins 52 2 = some (.putfield 38) := by decide +kernel
theorem i_52_5 : t_ins 52 5 = some (.aload_n 0) := by decide +kernel
theorem i_52_6 : t_ins 52 6 = some (.iconst (-1)) := by decide +kernel
theorem i_52_7 : t_ins 52 7 = some (.putfield 41) := by decide +kernel
theorem i_52_10 : t_ins 52 10 = some (.aload_n 0) := by decide +kernel
theorem i_52_11 : t_ins 52 11 = some (.iconst (-1)) := by decide +kernel
theorem i_52_12 : t_ins 52 12 = some (.putfield 44) := by decide +kernel
theorem i_52_15 : t_ins 52 15 = some (.aload_n 0) := by decide +kernel
theorem i_52_16 : t_ins 52 16 = some (.iconst 0) := by decide +kernel
theorem i_52_17 : t_ins 52 17 = some (.putfield 47) := by decide +kernel
theorem i_52_20 : t_ins 52 20 = some (.iconst 0) := by decide +kernel
theorem i_52_21 : t_ins 52 21 = some (.istore_n 1) := by decide +kernel
theorem i_52_22 : t_ins 52 22 = some (.iconst 1) := by decide +kernel
theorem i_52_23 : t_ins 52 23 = some (.istore_n 2) := by decide +kernel
theorem i_52_24 : t_ins 52 24 = some (.iload_n 2) := by decide +kernel
theorem i_52_25 : t_ins 52 25 = some (.aload_n 0) := by decide +kernel
theorem i_52_26 : t_ins 52 26 = some (.getfield 25) := by decide +kernel
theorem i_52_29 : t_ins 52 29 = some (.if_icmp .gt 64) := by decide +kernel
theorem i_52_32 : t_ins 52 32 = some (.iload_n 2) := by decide +kernel
theorem i_52_33 : t_ins 52 33 = some (.aload_n 0) := by decide +kernel
theorem i_52_34 : t_ins 52 34 = some (.getfield 25) := by decide +kernel
theorem i_52_37 : t_ins 52 37 = some (.if_icmp .ge 23) := by decide +kernel
theorem i_52_40 : t_ins 52 40 = some (.aload_n 0) := by decide +kernel
theorem i_52_41 : t_ins 52 41 = some (.aload_n 0) := by decide +kernel
theorem i_52_42 : t_ins 52 42 = some (.iload_n 1) := by decide +kernel
theorem i_52_43 : t_ins 52 43 = some (.invokevirtual 101) := by decide +kernel
theorem i_52_46 : t_ins 52 46 = some (.aload_n 0) := by decide +kernel
theorem i_52_47 : t_ins 52 47 = some (.iload_n 2) := by decide +kernel
theorem i_52_48 : t_ins 52 48 = some (.invokevirtual 101) := by decide +kernel
theorem i_52_51 : t_ins 52 51 = some (.invokevirtual 73) := by decide +kernel
theorem i_52_54 : t_ins 52 54 = some (.ifCond .ne 6) := by decide +kernel
theorem i_52_57 : t_ins 52 57 = some (.goto 30) := by decide +kernel
theorem i_52_60 : t_ins 52 60 = some (.aload_n 0) := by decide +kernel
theorem i_52_61 : t_ins 52 61 = some (.dup) := by decide +kernel
theorem i_52_62 : t_ins 52 62 = some (.getfield 47) := by decide +kernel
theorem i_52_65 : t_ins 52 65 = some (.iconst 1) := by decide +kernel
theorem i_52_66 : t_ins 52 66 = some (.iadd) := by decide +kernel
theorem i_52_67 : t_ins 52 67 = some (.putfield 47) := by decide +kernel
theorem i_52_70 : t_ins 52 70 = some (.iload_n 2) := by decide +kernel
theorem i_52_71 : t_ins 52 71 = some (.iload_n 1) := by decide +kernel
theorem i_52_72 : t_ins 52 72 = some (.isub) := by decide +kernel
theorem i_52_73 : t_ins 52 73 = some (.iconst 1) := by decide +kernel
theorem i_52_74 : t_ins 52 74 = some (.if_icmp .le 11) := by decide +kernel
theorem i_52_77 : t_ins 52 77 = some (.aload_n 0) := by decide +kernel
theorem i_52_78 : t_ins 52 78 = some (.iload_n 1) := by decide +kernel
theorem i_52_79 : t_ins 52 79 = some (.iload_n 2) := by decide +kernel
theorem i_52_80 : t_ins 52 80 = some (.iload_n 1) := by decide +kernel
theorem i_52_81 : t_ins 52 81 = some (.isub) := by decide +kernel
theorem i_52_82 : t_ins 52 82 = some (.invokevirtual 104) := by decide +kernel
theorem i_52_85 : t_ins 52 85 = some (.iload_n 2) := by decide +kernel
theorem i_52_86 : t_ins 52 86 = some (.istore_n 1) := by decide +kernel
theorem i_52_87 : t_ins 52 87 = some (.iinc 2 1) := by decide +kernel
theorem i_52_90 : t_ins 52 90 = some (.goto (-66)) := by decide +kernel
theorem i_52_93 : t_ins 52 93 = some (.return_) := by decide +kernel
theorem q_52_0 : XX d 52 0 [some (.ref a), v1, v2] st A Q ↔ XX d 52 1 [some (.ref a), v1, v2] (.ref a :: st) A Q := c_lcl i_52_0 rfl rfl
theorem q_52_1 : XX d 52 1 [v0, v1, v2] st A Q ↔ XX d 52 2 [v0, v1, v2] (.int (w 0) :: st) A Q := c_stk i_52_1 rfl
theorem q_52_2 : XX d 52 2 [v0, v1, v2] (.int x :: .ref a :: st) (mk S I L R G) Q ↔ S a = some (.inr 5) ∧ XX d 52 5 [v0, v1, v2] st (mk S (wr I a (up (I a) 7 x)) L R G) Q := r_pf i_52_2 rfl (by decide) rfl rfl rfl
theorem q_52_5 : XX d 52 5 [some (.ref a), v1, v2] st A Q ↔ XX d 52 6 [some (.ref a), v1, v2] (.ref a :: st) A Q := c_lcl i_52_5 rfl rfl
theorem q_52_6 : XX d 52 6 [v0, v1, v2] st A Q ↔ XX d 52 7 [v0, v1, v2] (.int (w (-1)) :: st) A Q := c_stk i_52_6 rfl
theorem q_52_7 : XX d 52 7 [v0, v1, v2] (.int x :: .ref a :: st) (mk S I L R G) Q ↔ S a = some (.inr 5) ∧ XX d 52 10 [v0, v1, v2] st (mk S (wr I a (up (I a) 8 x)) L R G) Q := r_pf i_52_7 rfl (by decide) rfl rfl rfl
theorem q_52_10 : XX d 52 10 [some (.ref a), v1, v2] st A Q ↔ XX d 52 11 [some (.ref a), v1, v2] (.ref a :: st) A Q := c_lcl i_52_10 rfl rfl
theorem q_52_11 : XX d 52 11 [v0, v1, v2] st A Q ↔ XX d 52 12 [v0, v1, v2] (.int (w (-1)) :: st) A Q := c_stk i_52_11 rfl
theorem q_52_12 : XX d 52 12 [v0, v1, v2] (.int x :: .ref a :: st) (mk S I L R G) Q ↔ S a = some (.inr 5) ∧ XX d 52 15 [v0, v1, v2] st (mk S (wr I a (up (I a) 9 x)) L R G) Q := r_pf i_52_12 rfl (by decide) rfl rfl rfl
theorem q_52_15 : XX d 52 15 [some (.ref a), v1, v2] st A Q ↔ XX d 52 16 [some (.ref a), v1, v2] (.ref a :: st) A Q := c_lcl i_52_15 rfl rfl
theorem q_52_16 : XX d 52 16 [v0, v1, v2] st A Q ↔ XX d 52 17 [v0, v1, v2] (.int (w 0) :: st) A Q := c_stk i_52_16 rfl
theorem q_52_17 : XX d 52 17 [v0, v1, v2] (.int x :: .ref a :: st) (mk S I L R G) Q ↔ S a = some (.inr 5) ∧ XX d 52 20 [v0, v1, v2] st (mk S (wr I a (up (I a) 10 x)) L R G) Q := r_pf i_52_17 rfl (by decide) rfl rfl rfl
theorem q_52_20 : XX d 52 20 [v0, v1, v2] st A Q ↔ XX d 52 21 [v0, v1, v2] (.int (w 0) :: st) A Q := c_stk i_52_20 rfl
theorem q_52_21 : XX d 52 21 [some (.ref b), v1, v2] (.int x :: st) A Q ↔ XX d 52 22 [some (.ref b), some (.int x), v2] st A Q := c_lcl i_52_21 rfl rfl
theorem q_52_22 : XX d 52 22 [v0, v1, v2] st A Q ↔ XX d 52 23 [v0, v1, v2] (.int (w 1) :: st) A Q := c_stk i_52_22 rfl
theorem q_52_23 : XX d 52 23 [v0, some (.int z), v2] (.int x :: st) A Q ↔ XX d 52 24 [v0, some (.int z), some (.int x)] st A Q := c_lcl i_52_23 rfl rfl
theorem q_52_24 : XX d 52 24 [v0, v1, some (.int x)] st A Q ↔ XX d 52 25 [v0, v1, some (.int x)] (.int x :: st) A Q := c_lcl i_52_24 rfl rfl
theorem q_52_25 : XX d 52 25 [some (.ref a), v1, v2] st A Q ↔ XX d 52 26 [some (.ref a), v1, v2] (.ref a :: st) A Q := c_lcl i_52_25 rfl rfl
theorem q_52_26 : XX d 52 26 [v0, v1, v2] (.ref a :: st) (mk S I L R G) Q ↔ S a = some (.inr 5) ∧ XX d 52 29 [v0, v1, v2] (.int (I a 3) :: st) (mk S I L R G) Q := r_gf i_52_26 rfl (by decide) rfl
theorem q_52_29 : XX d 52 29 [v0, v1, v2] (.int y :: .int x :: st) A Q ↔ if y < x then XX d 52 93 [v0, v1, v2] st A Q else XX d 52 32 [v0, v1, v2] st A Q := b_gt i_52_29 rfl rfl rfl
theorem q_52_32 : XX d 52 32 [v0, v1, some (.int x)] st A Q ↔ XX d 52 33 [v0, v1, some (.int x)] (.int x :: st) A Q := c_lcl i_52_32 rfl rfl
theorem q_52_33 : XX d 52 33 [some (.ref a), v1, v2] st A Q ↔ XX d 52 34 [some (.ref a), v1, v2] (.ref a :: st) A Q := c_lcl i_52_33 rfl rfl
theorem q_52_34 : XX d 52 34 [v0, v1, v2] (.ref a :: st) (mk S I L R G) Q ↔ S a = some (.inr 5) ∧ XX d 52 37 [v0, v1, v2] (.int (I a 3) :: st) (mk S I L R G) Q := r_gf i_52_34 rfl (by decide) rfl
theorem q_52_37 : XX d 52 37 [v0, v1, v2] (.int y :: .int x :: st) A Q ↔ if x < y then XX d 52 40 [v0, v1, v2] st A Q else XX d 52 60 [v0, v1, v2] st A Q := b_ge i_52_37 rfl rfl rfl
theorem q_52_40 : XX d 52 40 [some (.ref a), v1, v2] st A Q ↔ XX d 52 41 [some (.ref a), v1, v2] (.ref a :: st) A Q := c_lcl i_52_40 rfl rfl
theorem q_52_41 : XX d 52 41 [some (.ref a), v1, v2] st A Q ↔ XX d 52 42 [some (.ref a), v1, v2] (.ref a :: st) A Q := c_lcl i_52_41 rfl rfl
theorem q_52_42 : XX d 52 42 [v0, some (.int x), v2] st A Q ↔ XX d 52 43 [v0, some (.int x), v2] (.int x :: st) A Q := c_lcl i_52_42 rfl rfl
theorem q_52_43 : XX (d + 1) 52 43 [v0, v1, v2] [.int x1, .ref a0, .ref a2] (mk S I L R G) Q ↔ S a0 = some (.inr 5) ∧ XC d 47 [.ref a0, .int x1] (mk S I L R G) (XK (d + 1) 52 43 [v0, v1, v2] [.ref a2] Q) := c_callV i_52_43 rfl rfl rfl rfl (Nat.le_of_ble_eq_true rfl) (Nat.le_of_ble_eq_true rfl) rfl
theorem q_52_46 : XX d 52 46 [some (.ref a), v1, v2] st A Q ↔ XX d 52 47 [some (.ref a), v1, v2] (.ref a :: st) A Q := c_lcl i_52_46 rfl rfl
theorem q_52_47 : XX d 52 47 [v0, v1, some (.int x)] st A Q ↔ XX d 52 48 [v0, v1, some (.int x)] (.int x :: st) A Q := c_lcl i_52_47 rfl rfl
theorem q_52_48 : XX (d + 1) 52 48 [v0, v1, v2] [.int x1, .ref a0, .int x2, .ref a3] (mk S I L R G) Q ↔ S a0 = some (.inr 5) ∧ XC d 47 [.ref a0, .int x1] (mk S I L R G) (XK (d + 1) 52 48 [v0, v1, v2] [.int x2, .ref a3] Q) := c_callV i_52_48 rfl rfl rfl rfl (Nat.le_of_ble_eq_true rfl) (Nat.le_of_ble_eq_true rfl) rfl
theorem q_52_51 : XX (d + 1) 52 51 [v0, v1, v2] [.int x2, .int x1, .ref a0] (mk S I L R G) Q ↔ S a0 = some (.inr 5) ∧ XC d 46 [.ref a0, .int x1, .int x2] (mk S I L R G) (XK (d + 1) 52 51 [v0, v1, v2] [] Q) := c_callV i_52_51 rfl rfl rfl rfl (Nat.le_of_ble_eq_true rfl) (Nat.le_of_ble_eq_true rfl) rfl
theorem q_52_54 : XX d 52 54 [v0, v1, v2] (.int x :: st) A Q ↔ if x = w 0 then XX d 52 57 [v0, v1, v2] st A Q else XX d 52 60 [v0, v1, v2] st A Q := z_ne i_52_54 rfl rfl rfl
theorem q_52_57 : XX d 52 57 [v0, v1, v2] st A Q ↔ XX d 52 87 [v0, v1, v2] st A Q := c_go i_52_57 rfl rfl
theorem q_52_60 : XX d 52 60 [some (.ref a), v1, v2] st A Q ↔ XX d 52 61 [some (.ref a), v1, v2] (.ref a :: st) A Q := c_lcl i_52_60 rfl rfl
theorem q_52_61 : XX d 52 61 [v0, v1, v2] (.ref a1 :: st) A Q ↔ XX d 52 62 [v0, v1, v2] (.ref a1 :: .ref a1 :: st) A Q := c_stk i_52_61 rfl
theorem q_52_62 : XX d 52 62 [v0, v1, v2] (.ref a :: st) (mk S I L R G) Q ↔ S a = some (.inr 5) ∧ XX d 52 65 [v0, v1, v2] (.int (I a 10) :: st) (mk S I L R G) Q := r_gf i_52_62 rfl (by decide) rfl
theorem q_52_65 : XX d 52 65 [v0, v1, v2] st A Q ↔ XX d 52 66 [v0, v1, v2] (.int (w 1) :: st) A Q := c_stk i_52_65 rfl
theorem q_52_66 : XX d 52 66 [v0, v1, v2] (.int y :: .int x :: st) A Q ↔ XX d 52 67 [v0, v1, v2] (.int (x + y) :: st) A Q := c_stk i_52_66 rfl
theorem q_52_67 : XX d 52 67 [v0, v1, v2] (.int x :: .ref a :: st) (mk S I L R G) Q ↔ S a = some (.inr 5) ∧ XX d 52 70 [v0, v1, v2] st (mk S (wr I a (up (I a) 10 x)) L R G) Q := r_pf i_52_67 rfl (by decide) rfl rfl rfl
theorem q_52_70 : XX d 52 70 [v0, v1, some (.int x)] st A Q ↔ XX d 52 71 [v0, v1, some (.int x)] (.int x :: st) A Q := c_lcl i_52_70 rfl rfl
theorem q_52_71 : XX d 52 71 [v0, some (.int x), v2] st A Q ↔ XX d 52 72 [v0, some (.int x), v2] (.int x :: st) A Q := c_lcl i_52_71 rfl rfl
theorem q_52_72 : XX d 52 72 [v0, v1, v2] (.int y :: .int x :: st) A Q ↔ XX d 52 73 [v0, v1, v2] (.int (x - y) :: st) A Q := c_stk i_52_72 rfl
theorem q_52_73 : XX d 52 73 [v0, v1, v2] st A Q ↔ XX d 52 74 [v0, v1, v2] (.int (w 1) :: st) A Q := c_stk i_52_73 rfl
theorem q_52_74 : XX d 52 74 [v0, v1, v2] (.int y :: .int x :: st) A Q ↔ if y < x then XX d 52 77 [v0, v1, v2] st A Q else XX d 52 85 [v0, v1, v2] st A Q := b_le i_52_74 rfl rfl rfl
theorem q_52_77 : XX d 52 77 [some (.ref a), v1, v2] st A Q ↔ XX d 52 78 [some (.ref a), v1, v2] (.ref a :: st) A Q := c_lcl i_52_77 rfl rfl
theorem q_52_78 : XX d 52 78 [v0, some (.int x), v2] st A Q ↔ XX d 52 79 [v0, some (.int x), v2] (.int x :: st) A Q := c_lcl i_52_78 rfl rfl
theorem q_52_79 : XX d 52 79 [v0, v1, some (.int x)] st A Q ↔ XX d 52 80 [v0, v1, some (.int x)] (.int x :: st) A Q := c_lcl i_52_79 rfl rfl
theorem q_52_80 : XX d 52 80 [v0, some (.int x), v2] st A Q ↔ XX d 52 81 [v0, some (.int x), v2] (.int x :: st) A Q := c_lcl i_52_80 rfl rfl
theorem q_52_81 : XX d 52 81 [v0, v1, v2] (.int y :: .int x :: st) A Q ↔ XX d 52 82 [v0, v1, v2] (.int (x - y) :: st) A Q := c_stk i_52_81 rfl
theorem q_52_82 : XX (d + 1) 52 82 [v0, v1, v2] [.int x2, .int x1, .ref a0] (mk S I L R G) Q ↔ S a0 = some (.inr 5) ∧ XC d 53 [.ref a0, .int x1, .int x2] (mk S I L R G) (XK (d + 1) 52 82 [v0, v1, v2] [] Q) := c_callV i_52_82 rfl rfl rfl rfl (Nat.le_of_ble_eq_true rfl) (Nat.le_of_ble_eq_true rfl) rfl
theorem q_52_85 : XX d 52 85 [v0, v1, some (.int x)] st A Q ↔ XX d 52 86 [v0, v1, some (.int x)] (.int x :: st) A Q := c_lcl i_52_85 rfl rfl
theorem q_52_86 : XX d 52 86 [some (.ref b), v1, v2] (.int x :: st) A Q ↔ XX d 52 87 [some (.ref b), some (.int x), v2] st A Q := c_lcl i_52_86 rfl rfl
theorem q_52_87 : XX d 52 87 [v0, some (.int z), some (.int x)] st A Q ↔ XX d 52 90 [v0, some (.int z), some (.int (x + w 1))] st A Q := c_lcl i_52_87 rfl rfl
theorem q_52_90 : XX d 52 90 [v0, v1, v2] st A Q ↔ XX d 52 24 [v0, v1, v2] st A Q := c_go i_52_90 rfl rfl
theorem q_52_93 : XX d 52 93 [v0, v1, v2] [] A Q ↔ Q (.inl none) A := e_retN i_52_93 rfl
theorem q_52_e : XC d 52 [.ref a0] A Q ↔ XX d 52 0 [some (.ref a0), none, none] [] A Q := Iff.rfl
theorem i_53_0 : t_ins 53 0 = some (.aload_n 0) := by decide +kernel
theorem i_53_1 : t_ins 53 1 = some (.dup) := by decide +kernel
theorem i_53_2 : t_ins 53 2 = some (.getfield 38) := by decide +kernel
theorem i_53_5 : t_ins 53 5 = some (.iload_n 2) := by decide +kernel
theorem i_53_6 : t_ins 53 6 = some (.iadd) := by decide +kernel
theorem i_53_7 : t_ins 53 7 = some (.putfield 38) := by decide +kernel
theorem i_53_10 : t_ins 53 10 = some (.aload_n 0) := by decide +kernel
theorem i_53_11 : t_ins 53 11 = some (.iload_n 1) := by decide +kernel
theorem i_53_12 : t_ins 53 12 = some (.invokevirtual 101) := by decide +kernel
theorem i_53_15 : t_ins 53 15 = some (.istore_n 3) := by decide +kernel
theorem i_53_16 : t_ins 53 16 = some (.aload_n 0) := by decide +kernel
theorem i_53_17 : t_ins 53 17 = some (.getfield 41) := by decide +kernel
theorem i_53_20 : t_ins 53 20 = some (.iconst (-1)) := by decide +kernel
theorem i_53_21 : t_ins 53 21 = some (.if_icmp .eq 11) := by decide +kernel
theorem i_53_24 : t_ins 53 24 = some (.iload_n 3) := by decide +kernel
theorem i_53_25 : t_ins 53 25 = some (.aload_n 0) := by decide +kernel
theorem i_53_26 : t_ins 53 26 = some (.getfield 41) := by decide +kernel
theorem i_53_29 : t_ins 53 29 = some (.if_icmp .ge 19) := by decide +kernel
theorem i_53_32 : t_ins 53 32 = some (.aload_n 0) := by decide +kernel
theorem i_53_33 : t_ins 53 33 = some (.iload_n 3) := by decide +kernel
theorem i_53_34 : t_ins 53 34 = some (.putfield 41) := by decide +kernel
theorem i_53_37 : t_ins 53 37 = some (.aload_n 0) := by decide +kernel
theorem i_53_38 : t_ins 53 38 = some (.aload_n 0) := by decide +kernel
theorem i_53_39 : t_ins 53 39 = some (.iload_n 1) := by decide +kernel
theorem i_53_40 : t_ins 53 40 = some (.iconst 1) := by decide +kernel
theorem i_53_41 : t_ins 53 41 = some (.iadd) := by decide +kernel
theorem i_53_42 : t_ins 53 42 = some (.invokevirtual 101) := by decide +kernel
theorem i_53_45 : t_ins 53 45 = some (.putfield 44) := by decide +kernel
theorem i_53_48 : t_ins 53 48 = some (.return_) := by decide +kernel
theorem q_53_0 : XX d 53 0 [some (.ref a), v1, v2, v3] st A Q ↔ XX d 53 1 [some (.ref a), v1, v2, v3] (.ref a :: st) A Q := c_lcl i_53_0 rfl rfl
theorem q_53_1 : XX d 53 1 [v0, v1, v2, v3] (.ref a1 :: st) A Q ↔ XX d 53 2 [v0, v1, v2, v3] (.ref a1 :: .ref a1 :: st) A Q := c_stk i_53_1 rfl
theorem q_53_2 : XX d 53 2 [v0, v1, v2, v3] (.ref a :: st) (mk S I L R G) Q ↔ S a = some (.inr 5) ∧ XX d 53 5 [v0, v1, v2, v3] (.int (I a 7) :: st) (mk S I L R G) Q := r_gf i_53_2 rfl (by decide) rfl
theorem q_53_5 : XX d 53 5 [v0, v1, some (.int x), v3] st A Q ↔ XX d 53 6 [v0, v1, some (.int x), v3] (.int x :: st) A Q := c_lcl i_53_5 rfl rfl
theorem q_53_6 : XX d 53 6 [v0, v1, v2, v3] (.int y :: .int x :: st) A Q ↔ XX d 53 7 [v0, v1, v2, v3] (.int (x + y) :: st) A Q := c_stk i_53_6 rfl
theorem q_53_7 : XX d 53 7 [v0, v1, v2, v3] (.int x :: .ref a :: st) (mk S I L R G) Q ↔ S a = some (.inr 5) ∧ XX d 53 10 [v0, v1, v2, v3] st (mk S (wr I a (up (I a) 7 x)) L R G) Q := r_pf i_53_7 rfl (by decide) rfl rfl rfl
theorem q_53_10 : XX d 53 10 [some (.ref a), v1, v2, v3] st A Q ↔ XX d 53 11 [some (.ref a), v1, v2, v3] (.ref a :: st) A Q := c_lcl i_53_10 rfl rfl
theorem q_53_11 : XX d 53 11 [v0, some (.int x), v2, v3] st A Q ↔ XX d 53 12 [v0, some (.int x), v2, v3] (.int x :: st) A Q := c_lcl i_53_11 rfl rfl
theorem q_53_12 : XX (d + 1) 53 12 [v0, v1, v2, v3] [.int x1, .ref a0] (mk S I L R G) Q ↔ S a0 = some (.inr 5) ∧ XC d 47 [.ref a0, .int x1] (mk S I L R G) (XK (d + 1) 53 12 [v0, v1, v2, v3] [] Q) := c_callV i_53_12 rfl rfl rfl rfl (Nat.le_of_ble_eq_true rfl) (Nat.le_of_ble_eq_true rfl) rfl
theorem q_53_15 : XX d 53 15 [v0, v1, some (.int z), v3] (.int x :: st) A Q ↔ XX d 53 16 [v0, v1, some (.int z), some (.int x)] st A Q := c_lcl i_53_15 rfl rfl
theorem q_53_16 : XX d 53 16 [some (.ref a), v1, v2, v3] st A Q ↔ XX d 53 17 [some (.ref a), v1, v2, v3] (.ref a :: st) A Q := c_lcl i_53_16 rfl rfl
theorem q_53_17 : XX d 53 17 [v0, v1, v2, v3] (.ref a :: st) (mk S I L R G) Q ↔ S a = some (.inr 5) ∧ XX d 53 20 [v0, v1, v2, v3] (.int (I a 8) :: st) (mk S I L R G) Q := r_gf i_53_17 rfl (by decide) rfl
theorem q_53_20 : XX d 53 20 [v0, v1, v2, v3] st A Q ↔ XX d 53 21 [v0, v1, v2, v3] (.int (w (-1)) :: st) A Q := c_stk i_53_20 rfl
theorem q_53_21 : XX d 53 21 [v0, v1, v2, v3] (.int y :: .int x :: st) A Q ↔ if x = y then XX d 53 32 [v0, v1, v2, v3] st A Q else XX d 53 24 [v0, v1, v2, v3] st A Q := b_eq i_53_21 rfl rfl rfl
theorem q_53_24 : XX d 53 24 [v0, v1, v2, some (.int x)] st A Q ↔ XX d 53 25 [v0, v1, v2, some (.int x)] (.int x :: st) A Q := c_lcl i_53_24 rfl rfl
theorem q_53_25 : XX d 53 25 [some (.ref a), v1, v2, v3] st A Q ↔ XX d 53 26 [some (.ref a), v1, v2, v3] (.ref a :: st) A Q := c_lcl i_53_25 rfl rfl
theorem q_53_26 : XX d 53 26 [v0, v1, v2, v3] (.ref a :: st) (mk S I L R G) Q ↔ S a = some (.inr 5) ∧ XX d 53 29 [v0, v1, v2, v3] (.int (I a 8) :: st) (mk S I L R G) Q := r_gf i_53_26 rfl (by decide) rfl
theorem q_53_29 : XX d 53 29 [v0, v1, v2, v3] (.int y :: .int x :: st) A Q ↔ if x < y then XX d 53 32 [v0, v1, v2, v3] st A Q else XX d 53 48 [v0, v1, v2, v3] st A Q := b_ge i_53_29 rfl rfl rfl
theorem q_53_32 : XX d 53 32 [some (.ref a), v1, v2, v3] st A Q ↔ XX d 53 33 [some (.ref a), v1, v2, v3] (.ref a :: st) A Q := c_lcl i_53_32 rfl rfl
theorem q_53_33 : XX d 53 33 [v0, v1, v2, some (.int x)] st A Q ↔ XX d 53 34 [v0, v1, v2, some (.int x)] (.int x :: st) A Q := c_lcl i_53_33 rfl rfl
theorem q_53_34 : XX d 53 34 [v0, v1, v2, v3] (.int x :: .ref a :: st) (mk S I L R G) Q ↔ S a = some (.inr 5) ∧ XX d 53 37 [v0, v1, v2, v3] st (mk S (wr I a (up (I a) 8 x)) L R G) Q := r_pf i_53_34 rfl (by decide) rfl rfl rfl
theorem q_53_37 : XX d 53 37 [some (.ref a), v1, v2, v3] st A Q ↔ XX d 53 38 [some (.ref a), v1, v2, v3] (.ref a :: st) A Q := c_lcl i_53_37 rfl rfl
theorem q_53_38 : XX d 53 38 [some (.ref a), v1, v2, v3] st A Q ↔ XX d 53 39 [some (.ref a), v1, v2, v3] (.ref a :: st) A Q := c_lcl i_53_38 rfl rfl
theorem q_53_39 : XX d 53 39 [v0, some (.int x), v2, v3] st A Q ↔ XX d 53 40 [v0, some (.int x), v2, v3] (.int x :: st) A Q := c_lcl i_53_39 rfl rfl
theorem q_53_40 : XX d 53 40 [v0, v1, v2, v3] st A Q ↔ XX d 53 41 [v0, v1, v2, v3] (.int (w 1) :: st) A Q := c_stk i_53_40 rfl
theorem q_53_41 : XX d 53 41 [v0, v1, v2, v3] (.int y :: .int x :: st) A Q ↔ XX d 53 42 [v0, v1, v2, v3] (.int (x + y) :: st) A Q := c_stk i_53_41 rfl
theorem q_53_42 : XX (d + 1) 53 42 [v0, v1, v2, v3] [.int x1, .ref a0, .ref a2] (mk S I L R G) Q ↔ S a0 = some (.inr 5) ∧ XC d 47 [.ref a0, .int x1] (mk S I L R G) (XK (d + 1) 53 42 [v0, v1, v2, v3] [.ref a2] Q) := c_callV i_53_42 rfl rfl rfl rfl (Nat.le_of_ble_eq_true rfl) (Nat.le_of_ble_eq_true rfl) rfl
theorem q_53_45 : XX d 53 45 [v0, v1, v2, v3] (.int x :: .ref a :: st) (mk S I L R G) Q ↔ S a = some (.inr 5) ∧ XX d 53 48 [v0, v1, v2, v3] st (mk S (wr I a (up (I a) 9 x)) L R G) Q := r_pf i_53_45 rfl (by decide) rfl rfl rfl
theorem q_53_48 : XX d 53 48 [v0, v1, v2, v3] [] A Q ↔ Q (.inl none) A := e_retN i_53_48 rfl
theorem q_53_e : XC d 53 [.ref a0, .int x1, .int x2] A Q ↔ XX d 53 0 [some (.ref a0), some (.int x1), some (.int x2), none] [] A Q := Iff.rfl
theorem i_54_0 : t_ins 54 0 = some (.aload_n 0) := by decide +kernel
theorem i_54_1 : t_ins 54 1 = some (.invokespecial 3) := by decide +kernel
theorem i_54_4 : t_ins 54 4 = some (.aload_n 1) := by decide +kernel
theorem i_54_5 : t_ins 54 5 = some (.arraylength) := by decide +kernel
theorem i_54_6 : t_ins 54 6 = some (.iconst 4) := by decide +kernel
theorem i_54_7 : t_ins 54 7 = some (.if_icmp .lt 7) := by decide +kernel
theorem i_54_10 : t_ins 54 10 = some (.iconst 1) := by decide +kernel
theorem i_54_11 : t_ins 54 11 = some (.goto 4) := by decide +kernel
theorem i_54_14 : t_ins 54 14 = some (.iconst 0) := by decide +kernel
theorem i_54_15 : t_ins 54 15 = some (.istore 6) := by decide +kernel
theorem i_54_17 : t_ins 54 17 = some (.aload_n 0) := by decide +kernel
theorem i_54_18 : t_ins 54 18 = some (.iload 6) := by decide +kernel
theorem i_54_20 : t_ins 54 20 = some (.ifCond .eq 9) := by decide +kernel
theorem i_54_23 : t_ins 54 23 = some (.aload_n 1) := by decide +kernel
theorem i_54_24 : t_ins 54 24 = some (.iconst 0) := by decide +kernel
theorem i_54_25 : t_ins 54 25 = some (.iaload) := by decide +kernel
theorem i_54_26 : t_ins 54 26 = some (.goto 4) := by decide +kernel
theorem i_54_29 : t_ins 54 29 = some (.iconst 0) := by decide +kernel
theorem i_54_30 : t_ins 54 30 = some (.putfield 9) := by decide +kernel
theorem i_54_33 : t_ins 54 33 = some (.aload_n 0) := by decide +kernel
theorem i_54_34 : t_ins 54 34 = some (.iload 6) := by decide +kernel
theorem i_54_36 : t_ins 54 36 = some (.ifCond .eq 9) := by decide +kernel
theorem i_54_39 : t_ins 54 39 = some (.aload_n 1) := by decide +kernel
theorem i_54_40 : t_ins 54 40 = some (.iconst 1) := by decide +kernel
theorem i_54_41 : t_ins 54 41 = some (.iaload) := by decide +kernel
theorem i_54_42 : t_ins 54 42 = some (.goto 4) := by decide +kernel
theorem i_54_45 : t_ins 54 45 = some (.iconst 0) := by decide +kernel
theorem i_54_46 : t_ins 54 46 = some (.putfield 15) := by decide +kernel
theorem i_54_49 : t_ins 54 49 = some (.aload_n 0) := by decide +kernel
theorem i_54_50 : t_ins 54 50 = some (.iload 6) := by decide +kernel
theorem i_54_52 : t_ins 54 52 = some (.ifCond .eq 9) := by decide +kernel
theorem i_54_55 : t_ins 54 55 = some (.aload_n 1) := by decide +kernel
theorem i_54_56 : t_ins 54 56 = some (.iconst 2) := by decide +kernel
theorem i_54_57 : t_ins 54 57 = some (.iaload) := by decide +kernel
theorem i_54_58 : t_ins 54 58 = some (.goto 4) := by decide +kernel
theorem i_54_61 : t_ins 54 61 = some (.iconst 1) := by decide +kernel
theorem i_54_62 : t_ins 54 62 = some (.putfield 18) := by decide +kernel
theorem i_54_65 : t_ins 54 65 = some (.aload_n 0) := by decide +kernel
theorem i_54_66 : t_ins 54 66 = some (.iload 6) := by decide +kernel
theorem i_54_68 : t_ins 54 68 = some (.ifCond .eq 9) := by decide +kernel
theorem i_54_71 : t_ins 54 71 = some (.aload_n 1) := by decide +kernel
theorem i_54_72 : t_ins 54 72 = some (.iconst 3) := by decide +kernel
theorem i_54_73 : t_ins 54 73 = some (.iaload) := by decide +kernel
theorem i_54_74 : t_ins 54 74 = some (.goto 4) := by decide +kernel
theorem i_54_77 : t_ins 54 77 = some (.iconst 0) := by decide +kernel
theorem i_54_78 : t_ins 54 78 = some (.putfield 21) := by decide +kernel
theorem i_54_81 : t_ins 54 81 = some (.iconst 0) := by decide +kernel
theorem i_54_82 : t_ins 54 82 = some (.iload_n 2) := by decide +kernel
theorem i_54_83 : t_ins 54 83 = some (.bipush 6) := by decide +kernel
theorem i_54_85 : t_ins 54 85 = some (.invokestatic 24) := by decide +kernel
theorem i_54_88 : t_ins 54 88 = some (.invokestatic 30) := by decide +kernel
theorem i_54_91 : t_ins 54 91 = some (.istore 7) := by decide +kernel
theorem i_54_93 : t_ins 54 93 = some (.aload_n 0) := by decide +kernel
theorem i_54_94 : t_ins 54 94 = some (.aload_n 3) := by decide +kernel
theorem i_54_95 : t_ins 54 95 = some (.iload 7) := by decide +kernel
theorem i_54_97 : t_ins 54 97 = some (.invokestatic 33) := by decide +kernel
theorem i_54_100 : t_ins 54 100 = some (.putfield 39) := by decide +kernel
theorem i_54_103 : t_ins 54 103 = some (.aload_n 0) := by decide +kernel
theorem i_54_104 : t_ins 54 104 = some (.aload 4) := by decide +kernel
theorem i_54_106 : t_ins 54 106 = some (.iload 7) := by decide +kernel
theorem i_54_108 : t_ins 54 108 = some (.invokestatic 33) := by decide +kernel
theorem i_54_111 : t_ins 54 111 = some (.putfield 43) := by decide +kernel
theorem i_54_114 : t_ins 54 114 = some (.aload_n 0) := by decide +kernel
theorem i_54_115 : t_ins 54 115 = some (.aload 5) := by decide +kernel
theorem i_54_117 : t_ins 54 117 = some (.iload 7) := by decide +kernel
theorem i_54_119 : t_ins 54 119 = some (.invokestatic 46) := by decide +kernel
theorem i_54_122 : t_ins 54 122 = some (.putfield 49) := by decide +kernel
theorem i_54_125 : t_ins 54 125 = some (.return_) := by decide +kernel
theorem q_54_0 : XX d 54 0 [some (.ref a), v1, v2, v3, v4, v5, v6, v7] st A Q ↔ XX d 54 1 [some (.ref a), v1, v2, v3, v4, v5, v6, v7] (.ref a :: st) A Q := c_lcl i_54_0 rfl rfl
theorem q_54_4 : XX d 54 4 [v0, some (.ref a), v2, v3, v4, v5, v6, v7] st A Q ↔ XX d 54 5 [v0, some (.ref a), v2, v3, v4, v5, v6, v7] (.ref a :: st) A Q := c_lcl i_54_4 rfl rfl
theorem q_54_5 : XX d 54 5 [v0, v1, v2, v3, v4, v5, v6, v7] (.ref a :: st) (mk S I L R G) Q ↔ alP (S a) (fun n => XX d 54 6 [v0, v1, v2, v3, v4, v5, v6, v7] (.int n :: st) (mk S I L R G) Q) := r_al i_54_5
theorem q_54_6 : XX d 54 6 [v0, v1, v2, v3, v4, v5, v6, v7] st A Q ↔ XX d 54 7 [v0, v1, v2, v3, v4, v5, v6, v7] (.int (w 4) :: st) A Q := c_stk i_54_6 rfl
theorem q_54_7 : XX d 54 7 [v0, v1, v2, v3, v4, v5, v6, v7] (.int y :: .int x :: st) A Q ↔ if x < y then XX d 54 14 [v0, v1, v2, v3, v4, v5, v6, v7] st A Q else XX d 54 10 [v0, v1, v2, v3, v4, v5, v6, v7] st A Q := b_lt i_54_7 rfl rfl rfl
theorem q_54_10 : XX d 54 10 [v0, v1, v2, v3, v4, v5, v6, v7] st A Q ↔ XX d 54 11 [v0, v1, v2, v3, v4, v5, v6, v7] (.int (w 1) :: st) A Q := c_stk i_54_10 rfl
theorem q_54_11 : XX d 54 11 [v0, v1, v2, v3, v4, v5, v6, v7] st A Q ↔ XX d 54 15 [v0, v1, v2, v3, v4, v5, v6, v7] st A Q := c_go i_54_11 rfl rfl
theorem q_54_14 : XX d 54 14 [v0, v1, v2, v3, v4, v5, v6, v7] st A Q ↔ XX d 54 15 [v0, v1, v2, v3, v4, v5, v6, v7] (.int (w 0) :: st) A Q := c_stk i_54_14 rfl
theorem q_54_15 : XX d 54 15 [v0, v1, v2, v3, v4, some (.ref b), v6, v7] (.int x :: st) A Q ↔ XX d 54 17 [v0, v1, v2, v3, v4, some (.ref b), some (.int x), v7] st A Q := c_lcl i_54_15 rfl rfl
theorem q_54_17 : XX d 54 17 [some (.ref a), v1, v2, v3, v4, v5, v6, v7] st A Q ↔ XX d 54 18 [some (.ref a), v1, v2, v3, v4, v5, v6, v7] (.ref a :: st) A Q := c_lcl i_54_17 rfl rfl
theorem q_54_18 : XX d 54 18 [v0, v1, v2, v3, v4, v5, some (.int x), v7] st A Q ↔ XX d 54 20 [v0, v1, v2, v3, v4, v5, some (.int x), v7] (.int x :: st) A Q := c_lcl i_54_18 rfl rfl
theorem q_54_20 : XX d 54 20 [v0, v1, v2, v3, v4, v5, v6, v7] (.int x :: st) A Q ↔ if x = w 0 then XX d 54 29 [v0, v1, v2, v3, v4, v5, v6, v7] st A Q else XX d 54 23 [v0, v1, v2, v3, v4, v5, v6, v7] st A Q := z_eq i_54_20 rfl rfl rfl
theorem q_54_23 : XX d 54 23 [v0, some (.ref a), v2, v3, v4, v5, v6, v7] st A Q ↔ XX d 54 24 [v0, some (.ref a), v2, v3, v4, v5, v6, v7] (.ref a :: st) A Q := c_lcl i_54_23 rfl rfl
theorem q_54_24 : XX d 54 24 [v0, v1, v2, v3, v4, v5, v6, v7] st A Q ↔ XX d 54 25 [v0, v1, v2, v3, v4, v5, v6, v7] (.int (w 0) :: st) A Q := c_stk i_54_24 rfl
theorem q_54_25 : XX d 54 25 [v0, v1, v2, v3, v4, v5, v6, v7] (.int x :: .ref a :: st) (mk S I L R G) Q ↔ inA (S a) ok_i x ∧ XX d 54 26 [v0, v1, v2, v3, v4, v5, v6, v7] (.int (I a (ix x)) :: st) (mk S I L R G) Q := r_ia i_54_25
theorem q_54_26 : XX d 54 26 [v0, v1, v2, v3, v4, v5, v6, v7] st A Q ↔ XX d 54 30 [v0, v1, v2, v3, v4, v5, v6, v7] st A Q := c_go i_54_26 rfl rfl
theorem q_54_29 : XX d 54 29 [v0, v1, v2, v3, v4, v5, v6, v7] st A Q ↔ XX d 54 30 [v0, v1, v2, v3, v4, v5, v6, v7] (.int (w 0) :: st) A Q := c_stk i_54_29 rfl
theorem q_54_33 : XX d 54 33 [some (.ref a), v1, v2, v3, v4, v5, v6, v7] st A Q ↔ XX d 54 34 [some (.ref a), v1, v2, v3, v4, v5, v6, v7] (.ref a :: st) A Q := c_lcl i_54_33 rfl rfl
theorem q_54_34 : XX d 54 34 [v0, v1, v2, v3, v4, v5, some (.int x), v7] st A Q ↔ XX d 54 36 [v0, v1, v2, v3, v4, v5, some (.int x), v7] (.int x :: st) A Q := c_lcl i_54_34 rfl rfl
theorem q_54_36 : XX d 54 36 [v0, v1, v2, v3, v4, v5, v6, v7] (.int x :: st) A Q ↔ if x = w 0 then XX d 54 45 [v0, v1, v2, v3, v4, v5, v6, v7] st A Q else XX d 54 39 [v0, v1, v2, v3, v4, v5, v6, v7] st A Q := z_eq i_54_36 rfl rfl rfl
theorem q_54_39 : XX d 54 39 [v0, some (.ref a), v2, v3, v4, v5, v6, v7] st A Q ↔ XX d 54 40 [v0, some (.ref a), v2, v3, v4, v5, v6, v7] (.ref a :: st) A Q := c_lcl i_54_39 rfl rfl
theorem q_54_40 : XX d 54 40 [v0, v1, v2, v3, v4, v5, v6, v7] st A Q ↔ XX d 54 41 [v0, v1, v2, v3, v4, v5, v6, v7] (.int (w 1) :: st) A Q := c_stk i_54_40 rfl
theorem q_54_41 : XX d 54 41 [v0, v1, v2, v3, v4, v5, v6, v7] (.int x :: .ref a :: st) (mk S I L R G) Q ↔ inA (S a) ok_i x ∧ XX d 54 42 [v0, v1, v2, v3, v4, v5, v6, v7] (.int (I a (ix x)) :: st) (mk S I L R G) Q := r_ia i_54_41
theorem q_54_42 : XX d 54 42 [v0, v1, v2, v3, v4, v5, v6, v7] st A Q ↔ XX d 54 46 [v0, v1, v2, v3, v4, v5, v6, v7] st A Q := c_go i_54_42 rfl rfl
theorem q_54_45 : XX d 54 45 [v0, v1, v2, v3, v4, v5, v6, v7] st A Q ↔ XX d 54 46 [v0, v1, v2, v3, v4, v5, v6, v7] (.int (w 0) :: st) A Q := c_stk i_54_45 rfl
theorem q_54_49 : XX d 54 49 [some (.ref a), v1, v2, v3, v4, v5, v6, v7] st A Q ↔ XX d 54 50 [some (.ref a), v1, v2, v3, v4, v5, v6, v7] (.ref a :: st) A Q := c_lcl i_54_49 rfl rfl
theorem q_54_50 : XX d 54 50 [v0, v1, v2, v3, v4, v5, some (.int x), v7] st A Q ↔ XX d 54 52 [v0, v1, v2, v3, v4, v5, some (.int x), v7] (.int x :: st) A Q := c_lcl i_54_50 rfl rfl
theorem q_54_52 : XX d 54 52 [v0, v1, v2, v3, v4, v5, v6, v7] (.int x :: st) A Q ↔ if x = w 0 then XX d 54 61 [v0, v1, v2, v3, v4, v5, v6, v7] st A Q else XX d 54 55 [v0, v1, v2, v3, v4, v5, v6, v7] st A Q := z_eq i_54_52 rfl rfl rfl
theorem q_54_55 : XX d 54 55 [v0, some (.ref a), v2, v3, v4, v5, v6, v7] st A Q ↔ XX d 54 56 [v0, some (.ref a), v2, v3, v4, v5, v6, v7] (.ref a :: st) A Q := c_lcl i_54_55 rfl rfl
theorem q_54_56 : XX d 54 56 [v0, v1, v2, v3, v4, v5, v6, v7] st A Q ↔ XX d 54 57 [v0, v1, v2, v3, v4, v5, v6, v7] (.int (w 2) :: st) A Q := c_stk i_54_56 rfl
theorem q_54_57 : XX d 54 57 [v0, v1, v2, v3, v4, v5, v6, v7] (.int x :: .ref a :: st) (mk S I L R G) Q ↔ inA (S a) ok_i x ∧ XX d 54 58 [v0, v1, v2, v3, v4, v5, v6, v7] (.int (I a (ix x)) :: st) (mk S I L R G) Q := r_ia i_54_57
theorem q_54_58 : XX d 54 58 [v0, v1, v2, v3, v4, v5, v6, v7] st A Q ↔ XX d 54 62 [v0, v1, v2, v3, v4, v5, v6, v7] st A Q := c_go i_54_58 rfl rfl
theorem q_54_61 : XX d 54 61 [v0, v1, v2, v3, v4, v5, v6, v7] st A Q ↔ XX d 54 62 [v0, v1, v2, v3, v4, v5, v6, v7] (.int (w 1) :: st) A Q := c_stk i_54_61 rfl
theorem q_54_65 : XX d 54 65 [some (.ref a), v1, v2, v3, v4, v5, v6, v7] st A Q ↔ XX d 54 66 [some (.ref a), v1, v2, v3, v4, v5, v6, v7] (.ref a :: st) A Q := c_lcl i_54_65 rfl rfl
theorem q_54_66 : XX d 54 66 [v0, v1, v2, v3, v4, v5, some (.int x), v7] st A Q ↔ XX d 54 68 [v0, v1, v2, v3, v4, v5, some (.int x), v7] (.int x :: st) A Q := c_lcl i_54_66 rfl rfl
theorem q_54_68 : XX d 54 68 [v0, v1, v2, v3, v4, v5, v6, v7] (.int x :: st) A Q ↔ if x = w 0 then XX d 54 77 [v0, v1, v2, v3, v4, v5, v6, v7] st A Q else XX d 54 71 [v0, v1, v2, v3, v4, v5, v6, v7] st A Q := z_eq i_54_68 rfl rfl rfl
theorem q_54_71 : XX d 54 71 [v0, some (.ref a), v2, v3, v4, v5, v6, v7] st A Q ↔ XX d 54 72 [v0, some (.ref a), v2, v3, v4, v5, v6, v7] (.ref a :: st) A Q := c_lcl i_54_71 rfl rfl
theorem q_54_72 : XX d 54 72 [v0, v1, v2, v3, v4, v5, v6, v7] st A Q ↔ XX d 54 73 [v0, v1, v2, v3, v4, v5, v6, v7] (.int (w 3) :: st) A Q := c_stk i_54_72 rfl
theorem q_54_73 : XX d 54 73 [v0, v1, v2, v3, v4, v5, v6, v7] (.int x :: .ref a :: st) (mk S I L R G) Q ↔ inA (S a) ok_i x ∧ XX d 54 74 [v0, v1, v2, v3, v4, v5, v6, v7] (.int (I a (ix x)) :: st) (mk S I L R G) Q := r_ia i_54_73
theorem q_54_74 : XX d 54 74 [v0, v1, v2, v3, v4, v5, v6, v7] st A Q ↔ XX d 54 78 [v0, v1, v2, v3, v4, v5, v6, v7] st A Q := c_go i_54_74 rfl rfl
theorem q_54_77 : XX d 54 77 [v0, v1, v2, v3, v4, v5, v6, v7] st A Q ↔ XX d 54 78 [v0, v1, v2, v3, v4, v5, v6, v7] (.int (w 0) :: st) A Q := c_stk i_54_77 rfl
theorem q_54_81 : XX d 54 81 [v0, v1, v2, v3, v4, v5, v6, v7] st A Q ↔ XX d 54 82 [v0, v1, v2, v3, v4, v5, v6, v7] (.int (w 0) :: st) A Q := c_stk i_54_81 rfl
theorem q_54_82 : XX d 54 82 [v0, v1, some (.int x), v3, v4, v5, v6, v7] st A Q ↔ XX d 54 83 [v0, v1, some (.int x), v3, v4, v5, v6, v7] (.int x :: st) A Q := c_lcl i_54_82 rfl rfl
theorem q_54_83 : XX d 54 83 [v0, v1, v2, v3, v4, v5, v6, v7] st A Q ↔ XX d 54 85 [v0, v1, v2, v3, v4, v5, v6, v7] (.int (w 6) :: st) A Q := c_stk i_54_83 rfl
theorem q_54_85 : XX d 54 85 [v0, v1, v2, v3, v4, v5, v6, v7] [.int y, .int x, .int x0] A Q ↔ XX d 54 88 [v0, v1, v2, v3, v4, v5, v6, v7] [.int (if y < x then y else x), .int x0] A Q := r_min i_54_85 rfl rfl (Nat.le_of_ble_eq_true rfl)
theorem q_54_88 : XX d 54 88 [v0, v1, v2, v3, v4, v5, v6, v7] [.int y, .int x] A Q ↔ XX d 54 91 [v0, v1, v2, v3, v4, v5, v6, v7] [.int (if x < y then y else x)] A Q := r_max i_54_88 rfl rfl (Nat.le_of_ble_eq_true rfl)
theorem q_54_91 : XX d 54 91 [v0, v1, v2, v3, v4, v5, some (.int z), v7] (.int x :: st) A Q ↔ XX d 54 93 [v0, v1, v2, v3, v4, v5, some (.int z), some (.int x)] st A Q := c_lcl i_54_91 rfl rfl
theorem q_54_93 : XX d 54 93 [some (.ref a), v1, v2, v3, v4, v5, v6, v7] st A Q ↔ XX d 54 94 [some (.ref a), v1, v2, v3, v4, v5, v6, v7] (.ref a :: st) A Q := c_lcl i_54_93 rfl rfl
theorem q_54_94 : XX d 54 94 [v0, v1, v2, some (.ref a), v4, v5, v6, v7] st A Q ↔ XX d 54 95 [v0, v1, v2, some (.ref a), v4, v5, v6, v7] (.ref a :: st) A Q := c_lcl i_54_94 rfl rfl
theorem q_54_95 : XX d 54 95 [v0, v1, v2, v3, v4, v5, v6, some (.int x)] st A Q ↔ XX d 54 97 [v0, v1, v2, v3, v4, v5, v6, some (.int x)] (.int x :: st) A Q := c_lcl i_54_95 rfl rfl
theorem q_54_97 : XX (d + 1) 54 97 [v0, v1, v2, v3, v4, v5, v6, v7] [.int x1, .ref a0, .ref a2] A Q ↔ XC d 270 [.ref a0, .int x1] A (XK (d + 1) 54 97 [v0, v1, v2, v3, v4, v5, v6, v7] [.ref a2] Q) := c_callS i_54_97 rfl rfl rfl rfl (Nat.le_of_ble_eq_true rfl) (Nat.le_of_ble_eq_true rfl)
theorem q_54_103 : XX d 54 103 [some (.ref a), v1, v2, v3, v4, v5, v6, v7] st A Q ↔ XX d 54 104 [some (.ref a), v1, v2, v3, v4, v5, v6, v7] (.ref a :: st) A Q := c_lcl i_54_103 rfl rfl
theorem q_54_104 : XX d 54 104 [v0, v1, v2, v3, some (.ref a), v5, v6, v7] st A Q ↔ XX d 54 106 [v0, v1, v2, v3, some (.ref a), v5, v6, v7] (.ref a :: st) A Q := c_lcl i_54_104 rfl rfl
theorem q_54_106 : XX d 54 106 [v0, v1, v2, v3, v4, v5, v6, some (.int x)] st A Q ↔ XX d 54 108 [v0, v1, v2, v3, v4, v5, v6, some (.int x)] (.int x :: st) A Q := c_lcl i_54_106 rfl rfl
theorem q_54_108 : XX (d + 1) 54 108 [v0, v1, v2, v3, v4, v5, v6, v7] [.int x1, .ref a0, .ref a2] A Q ↔ XC d 270 [.ref a0, .int x1] A (XK (d + 1) 54 108 [v0, v1, v2, v3, v4, v5, v6, v7] [.ref a2] Q) := c_callS i_54_108 rfl rfl rfl rfl (Nat.le_of_ble_eq_true rfl) (Nat.le_of_ble_eq_true rfl)
theorem q_54_114 : XX d 54 114 [some (.ref a), v1, v2, v3, v4, v5, v6, v7] st A Q ↔ XX d 54 115 [some (.ref a), v1, v2, v3, v4, v5, v6, v7] (.ref a :: st) A Q := c_lcl i_54_114 rfl rfl
theorem q_54_115 : XX d 54 115 [v0, v1, v2, v3, v4, some (.ref a), v6, v7] st A Q ↔ XX d 54 117 [v0, v1, v2, v3, v4, some (.ref a), v6, v7] (.ref a :: st) A Q := c_lcl i_54_115 rfl rfl
theorem q_54_117 : XX d 54 117 [v0, v1, v2, v3, v4, v5, v6, some (.int x)] st A Q ↔ XX d 54 119 [v0, v1, v2, v3, v4, v5, v6, some (.int x)] (.int x :: st) A Q := c_lcl i_54_117 rfl rfl
theorem q_54_119 : XX (d + 1) 54 119 [v0, v1, v2, v3, v4, v5, v6, v7] [.int x1, .ref a0, .ref a2] A Q ↔ XC d 271 [.ref a0, .int x1] A (XK (d + 1) 54 119 [v0, v1, v2, v3, v4, v5, v6, v7] [.ref a2] Q) := c_callS i_54_119 rfl rfl rfl rfl (Nat.le_of_ble_eq_true rfl) (Nat.le_of_ble_eq_true rfl)
theorem q_54_125 : XX d 54 125 [v0, v1, v2, v3, v4, v5, v6, v7] [] A Q ↔ Q (.inl none) A := e_retN i_54_125 rfl
theorem q_54_e : XC d 54 [.ref a0, .ref a1, .int x2, .ref a3, .ref a4, .ref a5] A Q ↔ XX d 54 0 [some (.ref a0), some (.ref a1), some (.int x2), some (.ref a3), some (.ref a4), some (.ref a5), none, none] [] A Q := Iff.rfl
theorem i_55_0 : t_ins 55 0 = some (.aload_n 0) := by decide +kernel
theorem i_55_1 : t_ins 55 1 = some (.getfield 39) := by decide +kernel
theorem i_55_4 : t_ins 55 4 = some (.arraylength) := by decide +kernel
theorem i_55_5 : t_ins 55 5 = some (.ireturn) := by decide +kernel
theorem q_55_0 : XX d 55 0 [some (.ref a)] st A Q ↔ XX d 55 1 [some (.ref a)] (.ref a :: st) A Q := c_lcl i_55_0 rfl rfl
theorem q_55_1 : XX d 55 1 [v0] (.ref a :: st) (mk S I L R G) Q ↔ S a = some (.inr 6) ∧ XX d 55 4 [v0] (.ref (a + 1) :: st) (mk S I L R G) Q := r_gf i_55_1 rfl (by decide) rfl
theorem q_55_4 : XX d 55 4 [v0] (.ref a :: st) (mk S I L R G) Q ↔ alP (S a) (fun n => XX d 55 5 [v0] (.int n :: st) (mk S I L R G) Q) := r_al i_55_4
theorem q_55_5 : XX d 55 5 [v0] [.int x] A Q ↔ Q (.inl (some (.int x))) A := e_retI i_55_5 rfl
theorem q_55_e : XC d 55 [.ref a0] A Q ↔ XX d 55 0 [some (.ref a0)] [] A Q := Iff.rfl
theorem i_56_0 : t_ins 56 0 = some (.iload_n 1) := by decide +kernel
theorem i_56_1 : t_ins 56 1 = some (.aload_n 0) := by decide +kernel
theorem i_56_2 : t_ins 56 2 = some (.getfield 9) := by decide +kernel
theorem i_56_5 : t_ins 56 5 = some (.if_icmp .lt 35) := by decide +kernel
theorem i_56_8 : t_ins 56 8 = some (.iload_n 1) := by decide +kernel
theorem i_56_9 : t_ins 56 9 = some (.aload_n 0) := by decide +kernel
theorem i_56_10 : t_ins 56 10 = some (.getfield 15) := by decide +kernel
theorem i_56_13 : t_ins 56 13 = some (.if_icmp .gt 27) := by decide +kernel
theorem i_56_16 : t_ins 56 16 = some (.aload_n 0) := by decide +kernel
theorem i_56_17 : t_ins 56 17 = some (.getfield 18) := by decide +kernel
theorem i_56_20 : t_ins 56 20 = some (.ifCond .le 20) := by decide +kernel
theorem i_56_23 : t_ins 56 23 = some (.iload_n 1) := by decide +kernel
theorem i_56_24 : t_ins 56 24 = some (.aload_n 0) := by decide +kernel
theorem i_56_25 : t_ins 56 25 = some (.getfield 18) := by decide +kernel
theorem i_56_28 : t_ins 56 28 = some (.irem) := by decide +kernel
theorem i_56_29 : t_ins 56 29 = some (.aload_n 0) := by decide +kernel
theorem i_56_30 : t_ins 56 30 = some (.getfield 21) := by decide +kernel
theorem i_56_33 : t_ins 56 33 = some (.if_icmp .ne 7) := by decide +kernel
theorem i_56_36 : t_ins 56 36 = some (.iconst 1) := by decide +kernel
theorem i_56_37 : t_ins 56 37 = some (.goto 4) := by decide +kernel
theorem i_56_40 : t_ins 56 40 = some (.iconst 0) := by decide +kernel
theorem i_56_41 : t_ins 56 41 = some (.ireturn) := by decide +kernel
theorem q_56_0 : XX d 56 0 [v0, some (.int x)] st A Q ↔ XX d 56 1 [v0, some (.int x)] (.int x :: st) A Q := c_lcl i_56_0 rfl rfl
theorem q_56_1 : XX d 56 1 [some (.ref a), v1] st A Q ↔ XX d 56 2 [some (.ref a), v1] (.ref a :: st) A Q := c_lcl i_56_1 rfl rfl
theorem q_56_2 : XX d 56 2 [v0, v1] (.ref a :: st) (mk S I L R G) Q ↔ S a = some (.inr 6) ∧ XX d 56 5 [v0, v1] (.int (I a 0) :: st) (mk S I L R G) Q := r_gf i_56_2 rfl (by decide) rfl
theorem q_56_5 : XX d 56 5 [v0, v1] (.int y :: .int x :: st) A Q ↔ if x < y then XX d 56 40 [v0, v1] st A Q else XX d 56 8 [v0, v1] st A Q := b_lt i_56_5 rfl rfl rfl
theorem q_56_8 : XX d 56 8 [v0, some (.int x)] st A Q ↔ XX d 56 9 [v0, some (.int x)] (.int x :: st) A Q := c_lcl i_56_8 rfl rfl
theorem q_56_9 : XX d 56 9 [some (.ref a), v1] st A Q ↔ XX d 56 10 [some (.ref a), v1] (.ref a :: st) A Q := c_lcl i_56_9 rfl rfl
theorem q_56_10 : XX d 56 10 [v0, v1] (.ref a :: st) (mk S I L R G) Q ↔ S a = some (.inr 6) ∧ XX d 56 13 [v0, v1] (.int (I a 1) :: st) (mk S I L R G) Q := r_gf i_56_10 rfl (by decide) rfl
theorem q_56_13 : XX d 56 13 [v0, v1] (.int y :: .int x :: st) A Q ↔ if y < x then XX d 56 40 [v0, v1] st A Q else XX d 56 16 [v0, v1] st A Q := b_gt i_56_13 rfl rfl rfl
theorem q_56_16 : XX d 56 16 [some (.ref a), v1] st A Q ↔ XX d 56 17 [some (.ref a), v1] (.ref a :: st) A Q := c_lcl i_56_16 rfl rfl
theorem q_56_17 : XX d 56 17 [v0, v1] (.ref a :: st) (mk S I L R G) Q ↔ S a = some (.inr 6) ∧ XX d 56 20 [v0, v1] (.int (I a 2) :: st) (mk S I L R G) Q := r_gf i_56_17 rfl (by decide) rfl
theorem q_56_20 : XX d 56 20 [v0, v1] (.int x :: st) A Q ↔ if w 0 < x then XX d 56 23 [v0, v1] st A Q else XX d 56 40 [v0, v1] st A Q := z_le i_56_20 rfl rfl rfl
theorem q_56_23 : XX d 56 23 [v0, some (.int x)] st A Q ↔ XX d 56 24 [v0, some (.int x)] (.int x :: st) A Q := c_lcl i_56_23 rfl rfl
theorem q_56_24 : XX d 56 24 [some (.ref a), v1] st A Q ↔ XX d 56 25 [some (.ref a), v1] (.ref a :: st) A Q := c_lcl i_56_24 rfl rfl
theorem q_56_25 : XX d 56 25 [v0, v1] (.ref a :: st) (mk S I L R G) Q ↔ S a = some (.inr 6) ∧ XX d 56 28 [v0, v1] (.int (I a 2) :: st) (mk S I L R G) Q := r_gf i_56_25 rfl (by decide) rfl
theorem q_56_28 : XX d 56 28 [v0, v1] (.int y :: .int x :: st) A Q ↔ ¬ y = w 0 ∧ XX d 56 29 [v0, v1] (.int (x - x / y * y) :: st) A Q := c_rem i_56_28
theorem q_56_29 : XX d 56 29 [some (.ref a), v1] st A Q ↔ XX d 56 30 [some (.ref a), v1] (.ref a :: st) A Q := c_lcl i_56_29 rfl rfl
theorem q_56_30 : XX d 56 30 [v0, v1] (.ref a :: st) (mk S I L R G) Q ↔ S a = some (.inr 6) ∧ XX d 56 33 [v0, v1] (.int (I a 3) :: st) (mk S I L R G) Q := r_gf i_56_30 rfl (by decide) rfl
theorem q_56_33 : XX d 56 33 [v0, v1] (.int y :: .int x :: st) A Q ↔ if x = y then XX d 56 36 [v0, v1] st A Q else XX d 56 40 [v0, v1] st A Q := b_ne i_56_33 rfl rfl rfl
theorem q_56_36 : XX d 56 36 [v0, v1] st A Q ↔ XX d 56 37 [v0, v1] (.int (w 1) :: st) A Q := c_stk i_56_36 rfl
theorem q_56_37 : XX d 56 37 [v0, v1] st A Q ↔ XX d 56 41 [v0, v1] st A Q := c_go i_56_37 rfl rfl
theorem q_56_40 : XX d 56 40 [v0, v1] st A Q ↔ XX d 56 41 [v0, v1] (.int (w 0) :: st) A Q := c_stk i_56_40 rfl
theorem q_56_41 : XX d 56 41 [v0, v1] [.int x] A Q ↔ (x = w 0 ∨ x = w 1) ∧ Q (.inl (some (.int x))) A := e_retZ i_56_41 rfl
theorem q_56_e : XC d 56 [.ref a0, .int x1] A Q ↔ XX d 56 0 [some (.ref a0), some (.int x1)] [] A Q := Iff.rfl
theorem i_57_0 : t_ins 57 0 = some (.iload_n 1) := by decide +kernel
theorem i_57_1 : t_ins 57 1 = some (.ifCond .lt 21) := by decide +kernel
theorem i_57_4 : t_ins 57 4 = some (.iload_n 1) := by decide +kernel
theorem i_57_5 : t_ins 57 5 = some (.aload_n 0) := by decide +kernel
theorem i_57_6 : t_ins 57 6 = some (.getfield 39) := by decide +kernel
theorem i_57_9 : t_ins 57 9 = some (.arraylength) := by decide +kernel
theorem i_57_10 : t_ins 57 10 = some (.if_icmp .ge 12) := by decide +kernel
theorem i_57_13 : t_ins 57 13 = some (.aload_n 0) := by decide +kernel
theorem i_57_14 : t_ins 57 14 = some (.getfield 39) := by decide +kernel
theorem i_57_17 : t_ins 57 17 = some (.iload_n 1) := by decide +kernel
theorem i_57_18 : t_ins 57 18 = some (.iaload) := by decide +kernel
theorem i_57_19 : t_ins 57 19 = some (.goto 4) := by decide +kernel
theorem i_57_22 : t_ins 57 22 = some (.iconst (-1)) := by decide +kernel
theorem i_57_23 : t_ins 57 23 = some (.ireturn) := by decide +kernel
theorem q_57_0 : XX d 57 0 [v0, some (.int x)] st A Q ↔ XX d 57 1 [v0, some (.int x)] (.int x :: st) A Q := c_lcl i_57_0 rfl rfl
theorem q_57_1 : XX d 57 1 [v0, v1] (.int x :: st) A Q ↔ if x < w 0 then XX d 57 22 [v0, v1] st A Q else XX d 57 4 [v0, v1] st A Q := z_lt i_57_1 rfl rfl rfl
theorem q_57_4 : XX d 57 4 [v0, some (.int x)] st A Q ↔ XX d 57 5 [v0, some (.int x)] (.int x :: st) A Q := c_lcl i_57_4 rfl rfl
theorem q_57_5 : XX d 57 5 [some (.ref a), v1] st A Q ↔ XX d 57 6 [some (.ref a), v1] (.ref a :: st) A Q := c_lcl i_57_5 rfl rfl
theorem q_57_6 : XX d 57 6 [v0, v1] (.ref a :: st) (mk S I L R G) Q ↔ S a = some (.inr 6) ∧ XX d 57 9 [v0, v1] (.ref (a + 1) :: st) (mk S I L R G) Q := r_gf i_57_6 rfl (by decide) rfl
theorem q_57_9 : XX d 57 9 [v0, v1] (.ref a :: st) (mk S I L R G) Q ↔ alP (S a) (fun n => XX d 57 10 [v0, v1] (.int n :: st) (mk S I L R G) Q) := r_al i_57_9
theorem q_57_10 : XX d 57 10 [v0, v1] (.int y :: .int x :: st) A Q ↔ if x < y then XX d 57 13 [v0, v1] st A Q else XX d 57 22 [v0, v1] st A Q := b_ge i_57_10 rfl rfl rfl
theorem q_57_13 : XX d 57 13 [some (.ref a), v1] st A Q ↔ XX d 57 14 [some (.ref a), v1] (.ref a :: st) A Q := c_lcl i_57_13 rfl rfl
theorem q_57_14 : XX d 57 14 [v0, v1] (.ref a :: st) (mk S I L R G) Q ↔ S a = some (.inr 6) ∧ XX d 57 17 [v0, v1] (.ref (a + 1) :: st) (mk S I L R G) Q := r_gf i_57_14 rfl (by decide) rfl
theorem q_57_17 : XX d 57 17 [v0, some (.int x)] st A Q ↔ XX d 57 18 [v0, some (.int x)] (.int x :: st) A Q := c_lcl i_57_17 rfl rfl
theorem q_57_18 : XX d 57 18 [v0, v1] (.int x :: .ref a :: st) (mk S I L R G) Q ↔ inA (S a) ok_i x ∧ XX d 57 19 [v0, v1] (.int (I a (ix x)) :: st) (mk S I L R G) Q := r_ia i_57_18
theorem q_57_19 : XX d 57 19 [v0, v1] st A Q ↔ XX d 57 23 [v0, v1] st A Q := c_go i_57_19 rfl rfl
theorem q_57_22 : XX d 57 22 [v0, v1] st A Q ↔ XX d 57 23 [v0, v1] (.int (w (-1)) :: st) A Q := c_stk i_57_22 rfl
theorem q_57_23 : XX d 57 23 [v0, v1] [.int x] A Q ↔ Q (.inl (some (.int x))) A := e_retI i_57_23 rfl
theorem q_57_e : XC d 57 [.ref a0, .int x1] A Q ↔ XX d 57 0 [some (.ref a0), some (.int x1)] [] A Q := Iff.rfl
theorem i_58_0 : t_ins 58 0 = some (.iload_n 1) := by decide +kernel
theorem i_58_1 : t_ins 58 1 = some (.ifCond .lt 21) := by decide +kernel
theorem i_58_4 : t_ins 58 4 = some (.iload_n 1) := by decide +kernel
theorem i_58_5 : t_ins 58 5 = some (.aload_n 0) := by decide +kernel
theorem i_58_6 : t_ins 58 6 = some (.getfield 43) := by decide +kernel
theorem i_58_9 : t_ins 58 9 = some (.arraylength) := by decide +kernel
theorem i_58_10 : t_ins 58 10 = some (.if_icmp .ge 12) := by decide +kernel
theorem i_58_13 : t_ins 58 13 = some (.aload_n 0) := by decide +kernel
theorem i_58_14 : t_ins 58 14 = some (.getfield 43) := by decide +kernel
theorem i_58_17 : t_ins 58 17 = some (.iload_n 1) := by decide +kernel
theorem i_58_18 : t_ins 58 18 = some (.iaload) := by decide +kernel
theorem i_58_19 : t_ins 58 19 = some (.goto 4) := by decide +kernel
theorem i_58_22 : t_ins 58 22 = some (.iconst (-1)) := by decide +kernel
theorem i_58_23 : t_ins 58 23 = some (.ireturn) := by decide +kernel
theorem q_58_0 : XX d 58 0 [v0, some (.int x)] st A Q ↔ XX d 58 1 [v0, some (.int x)] (.int x :: st) A Q := c_lcl i_58_0 rfl rfl
theorem q_58_1 : XX d 58 1 [v0, v1] (.int x :: st) A Q ↔ if x < w 0 then XX d 58 22 [v0, v1] st A Q else XX d 58 4 [v0, v1] st A Q := z_lt i_58_1 rfl rfl rfl
theorem q_58_4 : XX d 58 4 [v0, some (.int x)] st A Q ↔ XX d 58 5 [v0, some (.int x)] (.int x :: st) A Q := c_lcl i_58_4 rfl rfl
theorem q_58_5 : XX d 58 5 [some (.ref a), v1] st A Q ↔ XX d 58 6 [some (.ref a), v1] (.ref a :: st) A Q := c_lcl i_58_5 rfl rfl
theorem q_58_6 : XX d 58 6 [v0, v1] (.ref a :: st) (mk S I L R G) Q ↔ S a = some (.inr 6) ∧ XX d 58 9 [v0, v1] (.ref (a + 2) :: st) (mk S I L R G) Q := r_gf i_58_6 rfl (by decide) rfl
theorem q_58_9 : XX d 58 9 [v0, v1] (.ref a :: st) (mk S I L R G) Q ↔ alP (S a) (fun n => XX d 58 10 [v0, v1] (.int n :: st) (mk S I L R G) Q) := r_al i_58_9
theorem q_58_10 : XX d 58 10 [v0, v1] (.int y :: .int x :: st) A Q ↔ if x < y then XX d 58 13 [v0, v1] st A Q else XX d 58 22 [v0, v1] st A Q := b_ge i_58_10 rfl rfl rfl
theorem q_58_13 : XX d 58 13 [some (.ref a), v1] st A Q ↔ XX d 58 14 [some (.ref a), v1] (.ref a :: st) A Q := c_lcl i_58_13 rfl rfl
theorem q_58_14 : XX d 58 14 [v0, v1] (.ref a :: st) (mk S I L R G) Q ↔ S a = some (.inr 6) ∧ XX d 58 17 [v0, v1] (.ref (a + 2) :: st) (mk S I L R G) Q := r_gf i_58_14 rfl (by decide) rfl
theorem q_58_17 : XX d 58 17 [v0, some (.int x)] st A Q ↔ XX d 58 18 [v0, some (.int x)] (.int x :: st) A Q := c_lcl i_58_17 rfl rfl
theorem q_58_18 : XX d 58 18 [v0, v1] (.int x :: .ref a :: st) (mk S I L R G) Q ↔ inA (S a) ok_i x ∧ XX d 58 19 [v0, v1] (.int (I a (ix x)) :: st) (mk S I L R G) Q := r_ia i_58_18
theorem q_58_19 : XX d 58 19 [v0, v1] st A Q ↔ XX d 58 23 [v0, v1] st A Q := c_go i_58_19 rfl rfl
theorem q_58_22 : XX d 58 22 [v0, v1] st A Q ↔ XX d 58 23 [v0, v1] (.int (w (-1)) :: st) A Q := c_stk i_58_22 rfl
theorem q_58_23 : XX d 58 23 [v0, v1] [.int x] A Q ↔ Q (.inl (some (.int x))) A := e_retI i_58_23 rfl
theorem q_58_e : XC d 58 [.ref a0, .int x1] A Q ↔ XX d 58 0 [some (.ref a0), some (.int x1)] [] A Q := Iff.rfl
end

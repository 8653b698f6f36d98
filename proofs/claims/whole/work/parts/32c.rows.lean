/-! rows of methods 59 to 79 -/
section
variable {d : Nat} {Q : XO → Hp → Prop} {S : SH} {I : MI} {L : ML} {R : MR} {G : MG} {A : Hp} {st : List Value} {x y z x0 x1 x2 x3 x4 x5 x6 x7 x8 x9 : Int32} {lx ly l0 l1 l2 l3 l4 l5 l6 : Int64} {t kk jj a b a0 a1 a2 a3 a4 a5 a6 a7 a8 a9 : Nat} {o o0 o1 o2 o3 o4 : Option Nat} {v0 v1 v2 v3 v4 v5 v6 v7 v8 v9 v10 v11 v12 v13 v14 v15 v16 v17 v18 v19 v20 : Option Value}
theorem i_59_0 : t_ins 59 0 = some (.iload_n 1) := by decide +kernel
theorem i_59_1 : t_ins 59 1 = some (.ifCond .lt 22) := by decide +kernel
theorem i_59_4 : t_ins 59 4 = some (.iload_n 1) := by decide +kernel
theorem i_59_5 : t_ins 59 5 = some (.aload_n 0) := by decide +kernel
theorem i_59_6 : t_ins 59 6 = some (.getfield 49) := by decide +kernel
theorem i_59_9 : t_ins 59 9 = some (.arraylength) := by decide +kernel
theorem i_59_10 : t_ins 59 10 = some (.if_icmp .ge 13) := by decide +kernel
theorem i_59_13 : t_ins 59 13 = some (.iload_n 2) := by decide +kernel
theorem i_59_14 : t_ins 59 14 = some (.ifCond .lt 9) := by decide +kernel
theorem i_59_17 : t_ins 59 17 = some (.iload_n 2) := by decide +kernel
theorem i_59_18 : t_ins 59 18 = some (.bipush 8) := by decide +kernel
theorem i_59_20 : t_ins 59 20 = some (.if_icmp .lt 6) := by decide +kernel
theorem i_59_23 : t_ins 59 23 = some (.bipush 32) := by decide +kernel
theorem i_59_25 : t_ins 59 25 = some (.ireturn) := by decide +kernel
theorem i_59_26 : t_ins 59 26 = some (.aload_n 0) := by decide +kernel
theorem i_59_27 : t_ins 59 27 = some (.getfield 49) := by decide +kernel
theorem i_59_30 : t_ins 59 30 = some (.iload_n 1) := by decide +kernel
theorem i_59_31 : t_ins 59 31 = some (.laload) := by decide +kernel
theorem i_59_32 : t_ins 59 32 = some (.bipush 8) := by decide +kernel
theorem i_59_34 : t_ins 59 34 = some (.iload_n 2) := by decide +kernel
theorem i_59_35 : t_ins 59 35 = some (.imul) := by decide +kernel
theorem i_59_36 : t_ins 59 36 = some (.lushr) := by decide +kernel
theorem i_59_37 : t_ins 59 37 = some (.l2i) := by decide +kernel
theorem i_59_38 : t_ins 59 38 = some (.sipush 255) := by decide +kernel
theorem i_59_41 : t_ins 59 41 = some (.iand) := by decide +kernel
theorem i_59_42 : t_ins 59 42 = some (.ireturn) := by decide +kernel
theorem q_59_0 : XX d 59 0 [v0, some (.int x), v2] st A Q ↔ XX d 59 1 [v0, some (.int x), v2] (.int x :: st) A Q := c_lcl i_59_0 rfl rfl
theorem q_59_1 : XX d 59 1 [v0, v1, v2] (.int x :: st) A Q ↔ if x < w 0 then XX d 59 23 [v0, v1, v2] st A Q else XX d 59 4 [v0, v1, v2] st A Q := z_lt i_59_1 rfl rfl rfl
theorem q_59_4 : XX d 59 4 [v0, some (.int x), v2] st A Q ↔ XX d 59 5 [v0, some (.int x), v2] (.int x :: st) A Q := c_lcl i_59_4 rfl rfl
theorem q_59_5 : XX d 59 5 [some (.ref a), v1, v2] st A Q ↔ XX d 59 6 [some (.ref a), v1, v2] (.ref a :: st) A Q := c_lcl i_59_5 rfl rfl
theorem q_59_6 : XX d 59 6 [v0, v1, v2] (.ref a :: st) (mk S I L R G) Q ↔ S a = some (.inr 6) ∧ XX d 59 9 [v0, v1, v2] (.ref (a + 3) :: st) (mk S I L R G) Q := r_gf i_59_6 rfl (by decide) rfl
theorem q_59_9 : XX d 59 9 [v0, v1, v2] (.ref a :: st) (mk S I L R G) Q ↔ alP (S a) (fun n => XX d 59 10 [v0, v1, v2] (.int n :: st) (mk S I L R G) Q) := r_al i_59_9
theorem q_59_10 : XX d 59 10 [v0, v1, v2] (.int y :: .int x :: st) A Q ↔ if x < y then XX d 59 13 [v0, v1, v2] st A Q else XX d 59 23 [v0, v1, v2] st A Q := b_ge i_59_10 rfl rfl rfl
theorem q_59_13 : XX d 59 13 [v0, v1, some (.int x)] st A Q ↔ XX d 59 14 [v0, v1, some (.int x)] (.int x :: st) A Q := c_lcl i_59_13 rfl rfl
theorem q_59_14 : XX d 59 14 [v0, v1, v2] (.int x :: st) A Q ↔ if x < w 0 then XX d 59 23 [v0, v1, v2] st A Q else XX d 59 17 [v0, v1, v2] st A Q := z_lt i_59_14 rfl rfl rfl
theorem q_59_17 : XX d 59 17 [v0, v1, some (.int x)] st A Q ↔ XX d 59 18 [v0, v1, some (.int x)] (.int x :: st) A Q := c_lcl i_59_17 rfl rfl
theorem q_59_18 : XX d 59 18 [v0, v1, v2] st A Q ↔ XX d 59 20 [v0, v1, v2] (.int (w 8) :: st) A Q := c_stk i_59_18 rfl
theorem q_59_20 : XX d 59 20 [v0, v1, v2] (.int y :: .int x :: st) A Q ↔ if x < y then XX d 59 26 [v0, v1, v2] st A Q else XX d 59 23 [v0, v1, v2] st A Q := b_lt i_59_20 rfl rfl rfl
theorem q_59_23 : XX d 59 23 [v0, v1, v2] st A Q ↔ XX d 59 25 [v0, v1, v2] (.int (w 32) :: st) A Q := c_stk i_59_23 rfl
theorem q_59_25 : XX d 59 25 [v0, v1, v2] [.int x] A Q ↔ Q (.inl (some (.int x))) A := e_retI i_59_25 rfl
theorem q_59_26 : XX d 59 26 [some (.ref a), v1, v2] st A Q ↔ XX d 59 27 [some (.ref a), v1, v2] (.ref a :: st) A Q := c_lcl i_59_26 rfl rfl
theorem q_59_27 : XX d 59 27 [v0, v1, v2] (.ref a :: st) (mk S I L R G) Q ↔ S a = some (.inr 6) ∧ XX d 59 30 [v0, v1, v2] (.ref (a + 3) :: st) (mk S I L R G) Q := r_gf i_59_27 rfl (by decide) rfl
theorem q_59_30 : XX d 59 30 [v0, some (.int x), v2] st A Q ↔ XX d 59 31 [v0, some (.int x), v2] (.int x :: st) A Q := c_lcl i_59_30 rfl rfl
theorem q_59_31 : XX d 59 31 [v0, v1, v2] (.int x :: .ref a :: st) (mk S I L R G) Q ↔ inA (S a) ok_l x ∧ XX d 59 32 [v0, v1, v2] (.long (L a (ix x)) :: st) (mk S I L R G) Q := r_la i_59_31
theorem q_59_32 : XX d 59 32 [v0, v1, v2] st A Q ↔ XX d 59 34 [v0, v1, v2] (.int (w 8) :: st) A Q := c_stk i_59_32 rfl
theorem q_59_34 : XX d 59 34 [v0, v1, some (.int x)] st A Q ↔ XX d 59 35 [v0, v1, some (.int x)] (.int x :: st) A Q := c_lcl i_59_34 rfl rfl
theorem q_59_35 : XX d 59 35 [v0, v1, v2] (.int y :: .int x :: st) A Q ↔ XX d 59 36 [v0, v1, v2] (.int (x * y) :: st) A Q := c_stk i_59_35 rfl
theorem q_59_36 : XX d 59 36 [v0, v1, v2] (.int y :: .long lx :: st) A Q ↔ XX d 59 37 [v0, v1, v2] (.long ((lx.toUInt64 >>> (y.toInt64.toUInt64 &&& Int64.toUInt64 63)).toInt64) :: st) A Q := c_stk i_59_36 rfl
theorem q_59_37 : XX d 59 37 [v0, v1, v2] (.long lx :: st) A Q ↔ XX d 59 38 [v0, v1, v2] (.int lx.toInt32 :: st) A Q := c_stk i_59_37 rfl
theorem q_59_38 : XX d 59 38 [v0, v1, v2] st A Q ↔ XX d 59 41 [v0, v1, v2] (.int (w 255) :: st) A Q := c_stk i_59_38 rfl
theorem q_59_41 : XX d 59 41 [v0, v1, v2] (.int y :: .int x :: st) A Q ↔ XX d 59 42 [v0, v1, v2] (.int (x &&& y) :: st) A Q := c_stk i_59_41 rfl
theorem q_59_42 : XX d 59 42 [v0, v1, v2] [.int x] A Q ↔ Q (.inl (some (.int x))) A := e_retI i_59_42 rfl
theorem q_59_e : XC d 59 [.ref a0, .int x1, .int x2] A Q ↔ XX d 59 0 [some (.ref a0), some (.int x1), some (.int x2)] [] A Q := Iff.rfl
theorem i_60_0 : t_ins 60 0 = some (.aload_n 0) := by decide +kernel
theorem i_60_1 : t_ins 60 1 = some (.iload_n 1) := by decide +kernel
theorem i_60_2 : t_ins 60 2 = some (.invokevirtual 53) := by decide +kernel
theorem i_60_5 : t_ins 60 5 = some (.istore_n 3) := by decide +kernel
theorem i_60_6 : t_ins 60 6 = some (.aload_n 0) := by decide +kernel
theorem i_60_7 : t_ins 60 7 = some (.iload_n 1) := by decide +kernel
theorem i_60_8 : t_ins 60 8 = some (.invokevirtual 57) := by decide +kernel
theorem i_60_11 : t_ins 60 11 = some (.iconst 2) := by decide +kernel
theorem i_60_12 : t_ins 60 12 = some (.if_icmp .ne 17) := by decide +kernel
theorem i_60_15 : t_ins 60 15 = some (.iload_n 3) := by decide +kernel
theorem i_60_16 : t_ins 60 16 = some (.ifCond .le 13) := by decide +kernel
theorem i_60_19 : t_ins 60 19 = some (.iload_n 2) := by decide +kernel
theorem i_60_20 : t_ins 60 20 = some (.iload_n 3) := by decide +kernel
theorem i_60_21 : t_ins 60 21 = some (.irem) := by decide +kernel
theorem i_60_22 : t_ins 60 22 = some (.ifCond .ne 7) := by decide +kernel
theorem i_60_25 : t_ins 60 25 = some (.iconst 1) := by decide +kernel
theorem i_60_26 : t_ins 60 26 = some (.goto 4) := by decide +kernel
theorem i_60_29 : t_ins 60 29 = some (.iconst 0) := by decide +kernel
theorem i_60_30 : t_ins 60 30 = some (.ireturn) := by decide +kernel
theorem q_60_0 : XX d 60 0 [some (.ref a), v1, v2, v3] st A Q ↔ XX d 60 1 [some (.ref a), v1, v2, v3] (.ref a :: st) A Q := c_lcl i_60_0 rfl rfl
theorem q_60_1 : XX d 60 1 [v0, some (.int x), v2, v3] st A Q ↔ XX d 60 2 [v0, some (.int x), v2, v3] (.int x :: st) A Q := c_lcl i_60_1 rfl rfl
theorem q_60_2 : XX (d + 1) 60 2 [v0, v1, v2, v3] [.int x1, .ref a0] (mk S I L R G) Q ↔ S a0 = some (.inr 6) ∧ XC d 58 [.ref a0, .int x1] (mk S I L R G) (XK (d + 1) 60 2 [v0, v1, v2, v3] [] Q) := c_callV i_60_2 rfl rfl rfl rfl (Nat.le_of_ble_eq_true rfl) (Nat.le_of_ble_eq_true rfl) rfl
theorem q_60_5 : XX d 60 5 [v0, v1, some (.int z), v3] (.int x :: st) A Q ↔ XX d 60 6 [v0, v1, some (.int z), some (.int x)] st A Q := c_lcl i_60_5 rfl rfl
theorem q_60_6 : XX d 60 6 [some (.ref a), v1, v2, v3] st A Q ↔ XX d 60 7 [some (.ref a), v1, v2, v3] (.ref a :: st) A Q := c_lcl i_60_6 rfl rfl
theorem q_60_7 : XX d 60 7 [v0, some (.int x), v2, v3] st A Q ↔ XX d 60 8 [v0, some (.int x), v2, v3] (.int x :: st) A Q := c_lcl i_60_7 rfl rfl
theorem q_60_8 : XX (d + 1) 60 8 [v0, v1, v2, v3] [.int x1, .ref a0] (mk S I L R G) Q ↔ S a0 = some (.inr 6) ∧ XC d 57 [.ref a0, .int x1] (mk S I L R G) (XK (d + 1) 60 8 [v0, v1, v2, v3] [] Q) := c_callV i_60_8 rfl rfl rfl rfl (Nat.le_of_ble_eq_true rfl) (Nat.le_of_ble_eq_true rfl) rfl
theorem q_60_11 : XX d 60 11 [v0, v1, v2, v3] st A Q ↔ XX d 60 12 [v0, v1, v2, v3] (.int (w 2) :: st) A Q := c_stk i_60_11 rfl
theorem q_60_12 : XX d 60 12 [v0, v1, v2, v3] (.int y :: .int x :: st) A Q ↔ if x = y then XX d 60 15 [v0, v1, v2, v3] st A Q else XX d 60 29 [v0, v1, v2, v3] st A Q := b_ne i_60_12 rfl rfl rfl
theorem q_60_15 : XX d 60 15 [v0, v1, v2, some (.int x)] st A Q ↔ XX d 60 16 [v0, v1, v2, some (.int x)] (.int x :: st) A Q := c_lcl i_60_15 rfl rfl
theorem q_60_16 : XX d 60 16 [v0, v1, v2, v3] (.int x :: st) A Q ↔ if w 0 < x then XX d 60 19 [v0, v1, v2, v3] st A Q else XX d 60 29 [v0, v1, v2, v3] st A Q := z_le i_60_16 rfl rfl rfl
theorem q_60_19 : XX d 60 19 [v0, v1, some (.int x), v3] st A Q ↔ XX d 60 20 [v0, v1, some (.int x), v3] (.int x :: st) A Q := c_lcl i_60_19 rfl rfl
theorem q_60_20 : XX d 60 20 [v0, v1, v2, some (.int x)] st A Q ↔ XX d 60 21 [v0, v1, v2, some (.int x)] (.int x :: st) A Q := c_lcl i_60_20 rfl rfl
theorem q_60_21 : XX d 60 21 [v0, v1, v2, v3] (.int y :: .int x :: st) A Q ↔ ¬ y = w 0 ∧ XX d 60 22 [v0, v1, v2, v3] (.int (x - x / y * y) :: st) A Q := c_rem i_60_21
theorem q_60_22 : XX d 60 22 [v0, v1, v2, v3] (.int x :: st) A Q ↔ if x = w 0 then XX d 60 25 [v0, v1, v2, v3] st A Q else XX d 60 29 [v0, v1, v2, v3] st A Q := z_ne i_60_22 rfl rfl rfl
theorem q_60_25 : XX d 60 25 [v0, v1, v2, v3] st A Q ↔ XX d 60 26 [v0, v1, v2, v3] (.int (w 1) :: st) A Q := c_stk i_60_25 rfl
theorem q_60_26 : XX d 60 26 [v0, v1, v2, v3] st A Q ↔ XX d 60 30 [v0, v1, v2, v3] st A Q := c_go i_60_26 rfl rfl
theorem q_60_29 : XX d 60 29 [v0, v1, v2, v3] st A Q ↔ XX d 60 30 [v0, v1, v2, v3] (.int (w 0) :: st) A Q := c_stk i_60_29 rfl
theorem q_60_30 : XX d 60 30 [v0, v1, v2, v3] [.int x] A Q ↔ (x = w 0 ∨ x = w 1) ∧ Q (.inl (some (.int x))) A := e_retZ i_60_30 rfl
theorem q_60_e : XC d 60 [.ref a0, .int x1, .int x2] A Q ↔ XX d 60 0 [some (.ref a0), some (.int x1), some (.int x2), none] [] A Q := Iff.rfl
theorem i_61_0 : t_ins 61 0 = some (.aload_n 0) := by decide +kernel
theorem i_61_1 : t_ins 61 1 = some (.iload_n 1) := by decide +kernel
theorem i_61_2 : t_ins 61 2 = some (.invokevirtual 53) := by decide +kernel
theorem i_61_5 : t_ins 61 5 = some (.istore_n 3) := by decide +kernel
theorem i_61_6 : t_ins 61 6 = some (.iload_n 3) := by decide +kernel
theorem i_61_7 : t_ins 61 7 = some (.iconst 1) := by decide +kernel
theorem i_61_8 : t_ins 61 8 = some (.if_icmp .ge 5) := by decide +kernel
theorem i_61_11 : t_ins 61 11 = some (.iconst (-1)) := by decide +kernel
theorem i_61_12 : t_ins 61 12 = some (.ireturn) := by decide +kernel
theorem i_61_13 : t_ins 61 13 = some (.aload_n 0) := by decide +kernel
theorem i_61_14 : t_ins 61 14 = some (.iload_n 1) := by decide +kernel
theorem i_61_15 : t_ins 61 15 = some (.invokevirtual 57) := by decide +kernel
theorem i_61_18 : t_ins 61 18 = some (.tableswitch 42 1 4 #[30, 34, 34, 38]) := by decide +kernel
theorem i_61_48 : t_ins 61 48 = some (.iload_n 2) := by decide +kernel
theorem i_61_49 : t_ins 61 49 = some (.iload_n 3) := by decide +kernel
theorem i_61_50 : t_ins 61 50 = some (.idiv) := by decide +kernel
theorem i_61_51 : t_ins 61 51 = some (.ireturn) := by decide +kernel
theorem i_61_52 : t_ins 61 52 = some (.iload_n 2) := by decide +kernel
theorem i_61_53 : t_ins 61 53 = some (.iload_n 3) := by decide +kernel
theorem i_61_54 : t_ins 61 54 = some (.irem) := by decide +kernel
theorem i_61_55 : t_ins 61 55 = some (.ireturn) := by decide +kernel
theorem i_61_56 : t_ins 61 56 = some (.iload_n 2) := by decide +kernel
theorem i_61_57 : t_ins 61 57 = some (.iload_n 3) := by decide +kernel
theorem i_61_58 : t_ins 61 58 = some (.isub) := by decide +kernel
theorem i_61_59 : t_ins 61 59 = some (.ireturn) := by decide +kernel
theorem i_61_60 : t_ins 61 60 = some (.iload_n 2) := by decide +kernel
theorem i_61_61 : t_ins 61 61 = some (.iload_n 3) := by decide +kernel
theorem i_61_62 : t_ins 61 62 = some (.iadd) := by decide +kernel
theorem i_61_63 : t_ins 61 63 = some (.ireturn) := by decide +kernel
theorem q_61_0 : XX d 61 0 [some (.ref a), v1, v2, v3] st A Q ↔ XX d 61 1 [some (.ref a), v1, v2, v3] (.ref a :: st) A Q := c_lcl i_61_0 rfl rfl
theorem q_61_1 : XX d 61 1 [v0, some (.int x), v2, v3] st A Q ↔ XX d 61 2 [v0, some (.int x), v2, v3] (.int x :: st) A Q := c_lcl i_61_1 rfl rfl
theorem q_61_2 : XX (d + 1) 61 2 [v0, v1, v2, v3] [.int x1, .ref a0] (mk S I L R G) Q ↔ S a0 = some (.inr 6) ∧ XC d 58 [.ref a0, .int x1] (mk S I L R G) (XK (d + 1) 61 2 [v0, v1, v2, v3] [] Q) := c_callV i_61_2 rfl rfl rfl rfl (Nat.le_of_ble_eq_true rfl) (Nat.le_of_ble_eq_true rfl) rfl
theorem q_61_5 : XX d 61 5 [v0, v1, some (.int z), v3] (.int x :: st) A Q ↔ XX d 61 6 [v0, v1, some (.int z), some (.int x)] st A Q := c_lcl i_61_5 rfl rfl
theorem q_61_6 : XX d 61 6 [v0, v1, v2, some (.int x)] st A Q ↔ XX d 61 7 [v0, v1, v2, some (.int x)] (.int x :: st) A Q := c_lcl i_61_6 rfl rfl
theorem q_61_7 : XX d 61 7 [v0, v1, v2, v3] st A Q ↔ XX d 61 8 [v0, v1, v2, v3] (.int (w 1) :: st) A Q := c_stk i_61_7 rfl
theorem q_61_8 : XX d 61 8 [v0, v1, v2, v3] (.int y :: .int x :: st) A Q ↔ if x < y then XX d 61 11 [v0, v1, v2, v3] st A Q else XX d 61 13 [v0, v1, v2, v3] st A Q := b_ge i_61_8 rfl rfl rfl
theorem q_61_11 : XX d 61 11 [v0, v1, v2, v3] st A Q ↔ XX d 61 12 [v0, v1, v2, v3] (.int (w (-1)) :: st) A Q := c_stk i_61_11 rfl
theorem q_61_12 : XX d 61 12 [v0, v1, v2, v3] [.int x] A Q ↔ Q (.inl (some (.int x))) A := e_retI i_61_12 rfl
theorem q_61_13 : XX d 61 13 [some (.ref a), v1, v2, v3] st A Q ↔ XX d 61 14 [some (.ref a), v1, v2, v3] (.ref a :: st) A Q := c_lcl i_61_13 rfl rfl
theorem q_61_14 : XX d 61 14 [v0, some (.int x), v2, v3] st A Q ↔ XX d 61 15 [v0, some (.int x), v2, v3] (.int x :: st) A Q := c_lcl i_61_14 rfl rfl
theorem q_61_15 : XX (d + 1) 61 15 [v0, v1, v2, v3] [.int x1, .ref a0] (mk S I L R G) Q ↔ S a0 = some (.inr 6) ∧ XC d 57 [.ref a0, .int x1] (mk S I L R G) (XK (d + 1) 61 15 [v0, v1, v2, v3] [] Q) := c_callV i_61_15 rfl rfl rfl rfl (Nat.le_of_ble_eq_true rfl) (Nat.le_of_ble_eq_true rfl) rfl
theorem q_61_18 : XX d 61 18 [v0, v1, v2, v3] (.int x :: st) A Q ↔ XX d 61 (swT [48, 52, 52, 56] 60 1 x.toInt) [v0, v1, v2, v3] st A Q := c_tab i_61_18 rfl rfl rfl rfl
theorem q_61_48 : XX d 61 48 [v0, v1, some (.int x), v3] st A Q ↔ XX d 61 49 [v0, v1, some (.int x), v3] (.int x :: st) A Q := c_lcl i_61_48 rfl rfl
theorem q_61_49 : XX d 61 49 [v0, v1, v2, some (.int x)] st A Q ↔ XX d 61 50 [v0, v1, v2, some (.int x)] (.int x :: st) A Q := c_lcl i_61_49 rfl rfl
theorem q_61_50 : XX d 61 50 [v0, v1, v2, v3] (.int y :: .int x :: st) A Q ↔ ¬ y = w 0 ∧ XX d 61 51 [v0, v1, v2, v3] (.int (x / y) :: st) A Q := c_div i_61_50
theorem q_61_51 : XX d 61 51 [v0, v1, v2, v3] [.int x] A Q ↔ Q (.inl (some (.int x))) A := e_retI i_61_51 rfl
theorem q_61_52 : XX d 61 52 [v0, v1, some (.int x), v3] st A Q ↔ XX d 61 53 [v0, v1, some (.int x), v3] (.int x :: st) A Q := c_lcl i_61_52 rfl rfl
theorem q_61_53 : XX d 61 53 [v0, v1, v2, some (.int x)] st A Q ↔ XX d 61 54 [v0, v1, v2, some (.int x)] (.int x :: st) A Q := c_lcl i_61_53 rfl rfl
theorem q_61_54 : XX d 61 54 [v0, v1, v2, v3] (.int y :: .int x :: st) A Q ↔ ¬ y = w 0 ∧ XX d 61 55 [v0, v1, v2, v3] (.int (x - x / y * y) :: st) A Q := c_rem i_61_54
theorem q_61_55 : XX d 61 55 [v0, v1, v2, v3] [.int x] A Q ↔ Q (.inl (some (.int x))) A := e_retI i_61_55 rfl
theorem q_61_56 : XX d 61 56 [v0, v1, some (.int x), v3] st A Q ↔ XX d 61 57 [v0, v1, some (.int x), v3] (.int x :: st) A Q := c_lcl i_61_56 rfl rfl
theorem q_61_57 : XX d 61 57 [v0, v1, v2, some (.int x)] st A Q ↔ XX d 61 58 [v0, v1, v2, some (.int x)] (.int x :: st) A Q := c_lcl i_61_57 rfl rfl
theorem q_61_58 : XX d 61 58 [v0, v1, v2, v3] (.int y :: .int x :: st) A Q ↔ XX d 61 59 [v0, v1, v2, v3] (.int (x - y) :: st) A Q := c_stk i_61_58 rfl
theorem q_61_59 : XX d 61 59 [v0, v1, v2, v3] [.int x] A Q ↔ Q (.inl (some (.int x))) A := e_retI i_61_59 rfl
theorem q_61_60 : XX d 61 60 [v0, v1, some (.int x), v3] st A Q ↔ XX d 61 61 [v0, v1, some (.int x), v3] (.int x :: st) A Q := c_lcl i_61_60 rfl rfl
theorem q_61_61 : XX d 61 61 [v0, v1, v2, some (.int x)] st A Q ↔ XX d 61 62 [v0, v1, v2, some (.int x)] (.int x :: st) A Q := c_lcl i_61_61 rfl rfl
theorem q_61_62 : XX d 61 62 [v0, v1, v2, v3] (.int y :: .int x :: st) A Q ↔ XX d 61 63 [v0, v1, v2, v3] (.int (x + y) :: st) A Q := c_stk i_61_62 rfl
theorem q_61_63 : XX d 61 63 [v0, v1, v2, v3] [.int x] A Q ↔ Q (.inl (some (.int x))) A := e_retI i_61_63 rfl
theorem q_61_e : XC d 61 [.ref a0, .int x1, .int x2] A Q ↔ XX d 61 0 [some (.ref a0), some (.int x1), some (.int x2), none] [] A Q := Iff.rfl
theorem i_62_0 : t_ins 62 0 = some (.aload_n 0) := by decide +kernel
theorem i_62_1 : t_ins 62 1 = some (.invokespecial 3) := by decide +kernel
theorem i_62_4 : t_ins 62 4 = some (.aload_n 0) := by decide +kernel
theorem i_62_5 : t_ins 62 5 = some (.sipush 400) := by decide +kernel
theorem i_62_8 : t_ins 62 8 = some (.newarray .byte) := by decide +kernel
theorem i_62_10 : t_ins 62 10 = some (.putfield 9) := by decide +kernel
theorem i_62_13 : t_ins 62 13 = some (.aload_n 0) := by decide +kernel
theorem i_62_14 : t_ins 62 14 = some (.iconst 0) := by decide +kernel
theorem i_62_15 : t_ins 62 15 = some (.putfield 15) := by decide +kernel
theorem i_62_18 : t_ins 62 18 = some (.return_) := by decide +kernel
theorem q_62_0 : XX d 62 0 [some (.ref a)] st A Q ↔ XX d 62 1 [some (.ref a)] (.ref a :: st) A Q := c_lcl i_62_0 rfl rfl
theorem q_62_4 : XX d 62 4 [some (.ref a)] st A Q ↔ XX d 62 5 [some (.ref a)] (.ref a :: st) A Q := c_lcl i_62_4 rfl rfl
theorem q_62_5 : XX d 62 5 [v0] st A Q ↔ XX d 62 8 [v0] (.int (w 400) :: st) A Q := c_stk i_62_5 rfl
theorem q_62_13 : XX d 62 13 [some (.ref a)] st A Q ↔ XX d 62 14 [some (.ref a)] (.ref a :: st) A Q := c_lcl i_62_13 rfl rfl
theorem q_62_14 : XX d 62 14 [v0] st A Q ↔ XX d 62 15 [v0] (.int (w 0) :: st) A Q := c_stk i_62_14 rfl
theorem q_62_18 : XX d 62 18 [v0] [] A Q ↔ Q (.inl none) A := e_retN i_62_18 rfl
theorem q_62_e : XC d 62 [.ref a0] A Q ↔ XX d 62 0 [some (.ref a0)] [] A Q := Iff.rfl
theorem i_63_0 : t_ins 63 0 = some (.bipush 24) := by decide +kernel
theorem i_63_2 : t_ins 63 2 = some (.istore_n 2) := by decide +kernel
theorem i_63_3 : t_ins 63 3 = some (.iload_n 2) := by decide +kernel
theorem i_63_4 : t_ins 63 4 = some (.ifCond .lt 51) := by decide +kernel
theorem i_63_7 : t_ins 63 7 = some (.aload_n 0) := by decide +kernel
theorem i_63_8 : t_ins 63 8 = some (.getfield 15) := by decide +kernel
theorem i_63_11 : t_ins 63 11 = some (.ifCond .lt 38) := by decide +kernel
theorem i_63_14 : t_ins 63 14 = some (.aload_n 0) := by decide +kernel
theorem i_63_15 : t_ins 63 15 = some (.getfield 15) := by decide +kernel
theorem i_63_18 : t_ins 63 18 = some (.aload_n 0) := by decide +kernel
theorem i_63_19 : t_ins 63 19 = some (.getfield 9) := by decide +kernel
theorem i_63_22 : t_ins 63 22 = some (.arraylength) := by decide +kernel
theorem i_63_23 : t_ins 63 23 = some (.if_icmp .ge 26) := by decide +kernel
theorem i_63_26 : t_ins 63 26 = some (.aload_n 0) := by decide +kernel
theorem i_63_27 : t_ins 63 27 = some (.getfield 9) := by decide +kernel
theorem i_63_30 : t_ins 63 30 = some (.aload_n 0) := by decide +kernel
theorem i_63_31 : t_ins 63 31 = some (.getfield 15) := by decide +kernel
theorem i_63_34 : t_ins 63 34 = some (.iload_n 1) := by decide +kernel
theorem i_63_35 : t_ins 63 35 = some (.iload_n 2) := by decide +kernel
theorem i_63_36 : t_ins 63 36 = some (.iushr) := by decide +kernel
theorem i_63_37 : t_ins 63 37 = some (.i2b) := by decide +kernel
theorem i_63_38 : t_ins 63 38 = some (.bastore) := by decide +kernel
theorem i_63_39 : t_ins 63 39 = some (.aload_n 0) := by decide +kernel
theorem i_63_40 : t_ins 63 40 = some (.dup) := by decide +kernel
theorem i_63_41 : t_ins 63 41 = some (.getfield 15) := by decide +kernel
theorem i_63_44 : t_ins 63 44 = some (.iconst 1) := by decide +kernel
theorem i_63_45 : t_ins 63 45 = some (.iadd) := by decide +kernel
theorem i_63_46 : t_ins 63 46 = some (.putfield 15) := by decide +kernel
theorem i_63_49 : t_ins 63 49 = some (.iinc 2 (-8)) := by decide +kernel
theorem i_63_52 : t_ins 63 52 = some (.goto (-49)) := by decide +kernel
theorem i_63_55 : t_ins 63 55 = some (.return_) := by decide +kernel
theorem q_63_0 : XX d 63 0 [v0, v1, v2] st A Q ↔ XX d 63 2 [v0, v1, v2] (.int (w 24) :: st) A Q := c_stk i_63_0 rfl
theorem q_63_2 : XX d 63 2 [v0, some (.int z), v2] (.int x :: st) A Q ↔ XX d 63 3 [v0, some (.int z), some (.int x)] st A Q := c_lcl i_63_2 rfl rfl
theorem q_63_3 : XX d 63 3 [v0, v1, some (.int x)] st A Q ↔ XX d 63 4 [v0, v1, some (.int x)] (.int x :: st) A Q := c_lcl i_63_3 rfl rfl
theorem q_63_4 : XX d 63 4 [v0, v1, v2] (.int x :: st) A Q ↔ if x < w 0 then XX d 63 55 [v0, v1, v2] st A Q else XX d 63 7 [v0, v1, v2] st A Q := z_lt i_63_4 rfl rfl rfl
theorem q_63_7 : XX d 63 7 [some (.ref a), v1, v2] st A Q ↔ XX d 63 8 [some (.ref a), v1, v2] (.ref a :: st) A Q := c_lcl i_63_7 rfl rfl
theorem q_63_8 : XX d 63 8 [v0, v1, v2] (.ref a :: st) (mk S I L R G) Q ↔ S a = some (.inr 7) ∧ XX d 63 11 [v0, v1, v2] (.int (I a 1) :: st) (mk S I L R G) Q := r_gf i_63_8 rfl (by decide) rfl
theorem q_63_11 : XX d 63 11 [v0, v1, v2] (.int x :: st) A Q ↔ if x < w 0 then XX d 63 49 [v0, v1, v2] st A Q else XX d 63 14 [v0, v1, v2] st A Q := z_lt i_63_11 rfl rfl rfl
theorem q_63_14 : XX d 63 14 [some (.ref a), v1, v2] st A Q ↔ XX d 63 15 [some (.ref a), v1, v2] (.ref a :: st) A Q := c_lcl i_63_14 rfl rfl
theorem q_63_15 : XX d 63 15 [v0, v1, v2] (.ref a :: st) (mk S I L R G) Q ↔ S a = some (.inr 7) ∧ XX d 63 18 [v0, v1, v2] (.int (I a 1) :: st) (mk S I L R G) Q := r_gf i_63_15 rfl (by decide) rfl
theorem q_63_18 : XX d 63 18 [some (.ref a), v1, v2] st A Q ↔ XX d 63 19 [some (.ref a), v1, v2] (.ref a :: st) A Q := c_lcl i_63_18 rfl rfl
theorem q_63_19 : XX d 63 19 [v0, v1, v2] (.ref a :: st) (mk S I L R G) Q ↔ S a = some (.inr 7) ∧ XX d 63 22 [v0, v1, v2] (.ref (a + 1) :: st) (mk S I L R G) Q := r_gf i_63_19 rfl (by decide) rfl
theorem q_63_22 : XX d 63 22 [v0, v1, v2] (.ref a :: st) (mk S I L R G) Q ↔ alP (S a) (fun n => XX d 63 23 [v0, v1, v2] (.int n :: st) (mk S I L R G) Q) := r_al i_63_22
theorem q_63_23 : XX d 63 23 [v0, v1, v2] (.int y :: .int x :: st) A Q ↔ if x < y then XX d 63 26 [v0, v1, v2] st A Q else XX d 63 49 [v0, v1, v2] st A Q := b_ge i_63_23 rfl rfl rfl
theorem q_63_26 : XX d 63 26 [some (.ref a), v1, v2] st A Q ↔ XX d 63 27 [some (.ref a), v1, v2] (.ref a :: st) A Q := c_lcl i_63_26 rfl rfl
theorem q_63_27 : XX d 63 27 [v0, v1, v2] (.ref a :: st) (mk S I L R G) Q ↔ S a = some (.inr 7) ∧ XX d 63 30 [v0, v1, v2] (.ref (a + 1) :: st) (mk S I L R G) Q := r_gf i_63_27 rfl (by decide) rfl
theorem q_63_30 : XX d 63 30 [some (.ref a), v1, v2] st A Q ↔ XX d 63 31 [some (.ref a), v1, v2] (.ref a :: st) A Q := c_lcl i_63_30 rfl rfl
theorem q_63_31 : XX d 63 31 [v0, v1, v2] (.ref a :: st) (mk S I L R G) Q ↔ S a = some (.inr 7) ∧ XX d 63 34 [v0, v1, v2] (.int (I a 1) :: st) (mk S I L R G) Q := r_gf i_63_31 rfl (by decide) rfl
theorem q_63_34 : XX d 63 34 [v0, some (.int x), v2] st A Q ↔ XX d 63 35 [v0, some (.int x), v2] (.int x :: st) A Q := c_lcl i_63_34 rfl rfl
theorem q_63_35 : XX d 63 35 [v0, v1, some (.int x)] st A Q ↔ XX d 63 36 [v0, v1, some (.int x)] (.int x :: st) A Q := c_lcl i_63_35 rfl rfl
theorem q_63_36 : XX d 63 36 [v0, v1, v2] (.int y :: .int x :: st) A Q ↔ XX d 63 37 [v0, v1, v2] (.int ((x.toUInt32 >>> (y.toUInt32 &&& Int32.toUInt32 31)).toInt32) :: st) A Q := c_stk i_63_36 rfl
theorem q_63_37 : XX d 63 37 [v0, v1, v2] (.int x :: st) A Q ↔ XX d 63 38 [v0, v1, v2] (.int x.toInt8.toInt32 :: st) A Q := c_stk i_63_37 rfl
theorem q_63_38 : XX d 63 38 [v0, v1, v2] (.int y :: .int x :: .ref a :: st) (mk S I L R G) Q ↔ bsP (S a) x y (fun y => XX d 63 39 [v0, v1, v2] st (mk S (wr I a (up (I a) (ix x) y)) L R G) Q) := r_bas i_63_38
theorem q_63_39 : XX d 63 39 [some (.ref a), v1, v2] st A Q ↔ XX d 63 40 [some (.ref a), v1, v2] (.ref a :: st) A Q := c_lcl i_63_39 rfl rfl
theorem q_63_40 : XX d 63 40 [v0, v1, v2] (.ref a1 :: st) A Q ↔ XX d 63 41 [v0, v1, v2] (.ref a1 :: .ref a1 :: st) A Q := c_stk i_63_40 rfl
theorem q_63_41 : XX d 63 41 [v0, v1, v2] (.ref a :: st) (mk S I L R G) Q ↔ S a = some (.inr 7) ∧ XX d 63 44 [v0, v1, v2] (.int (I a 1) :: st) (mk S I L R G) Q := r_gf i_63_41 rfl (by decide) rfl
theorem q_63_44 : XX d 63 44 [v0, v1, v2] st A Q ↔ XX d 63 45 [v0, v1, v2] (.int (w 1) :: st) A Q := c_stk i_63_44 rfl
theorem q_63_45 : XX d 63 45 [v0, v1, v2] (.int y :: .int x :: st) A Q ↔ XX d 63 46 [v0, v1, v2] (.int (x + y) :: st) A Q := c_stk i_63_45 rfl
theorem q_63_46 : XX d 63 46 [v0, v1, v2] (.int x :: .ref a :: st) (mk S I L R G) Q ↔ S a = some (.inr 7) ∧ XX d 63 49 [v0, v1, v2] st (mk S (wr I a (up (I a) 1 x)) L R G) Q := r_pf i_63_46 rfl (by decide) rfl rfl rfl
theorem q_63_49 : XX d 63 49 [v0, some (.int z), some (.int x)] st A Q ↔ XX d 63 52 [v0, some (.int z), some (.int (x + w (-8)))] st A Q := c_lcl i_63_49 rfl rfl
theorem q_63_52 : XX d 63 52 [v0, v1, v2] st A Q ↔ XX d 63 3 [v0, v1, v2] st A Q := c_go i_63_52 rfl rfl
theorem q_63_55 : XX d 63 55 [v0, v1, v2] [] A Q ↔ Q (.inl none) A := e_retN i_63_55 rfl
theorem q_63_e : XC d 63 [.ref a0, .int x1] A Q ↔ XX d 63 0 [some (.ref a0), some (.int x1), none] [] A Q := Iff.rfl
theorem i_64_0 : t_ins 64 0 = some (.aload_n 0) := by decide +kernel
theorem i_64_1 : t_ins 64 1 = some (.invokespecial 3) := by decide +kernel
theorem i_64_4 : t_ins 64 4 = some (.aload_n 0) := by decide +kernel
theorem i_64_5 : t_ins 64 5 = some (.bipush 30) := by decide +kernel
theorem i_64_7 : t_ins 64 7 = some (.anewarray 9) := by decide +kernel
theorem i_64_10 : t_ins 64 10 = some (.putfield 11) := by decide +kernel
theorem i_64_13 : t_ins 64 13 = some (.aload_n 0) := by decide +kernel
theorem i_64_14 : t_ins 64 14 = some (.iconst 0) := by decide +kernel
theorem i_64_15 : t_ins 64 15 = some (.putfield 17) := by decide +kernel
theorem i_64_18 : t_ins 64 18 = some (.aload_n 0) := by decide +kernel
theorem i_64_19 : t_ins 64 19 = some (.iconst 0) := by decide +kernel
theorem i_64_20 : t_ins 64 20 = some (.putfield 21) := by decide +kernel
theorem i_64_23 : t_ins 64 23 = some (.aload_n 0) := by decide +kernel
theorem i_64_24 : t_ins 64 24 = some (.iconst 0) := by decide +kernel
theorem i_64_25 : t_ins 64 25 = some (.putfield 24) := by decide +kernel
theorem i_64_28 : t_ins 64 28 = some (.aload_n 0) := by decide +kernel
theorem i_64_29 : t_ins 64 29 = some (.iconst (-1)) := by decide +kernel
theorem i_64_30 : t_ins 64 30 = some (.putfield 27) := by decide +kernel
theorem i_64_33 : t_ins 64 33 = some (.aload_n 0) := by decide +kernel
theorem i_64_34 : t_ins 64 34 = some (.iconst 0) := by decide +kernel
theorem i_64_35 : t_ins 64 35 = some (.newarray .byte) := by decide +kernel
theorem i_64_37 : t_ins 64 37 = some (.putfield 30) := by decide +kernel
theorem i_64_40 : t_ins 64 40 = some (.aload_n 0) := by decide +kernel
theorem i_64_41 : t_ins 64 41 = some (.iconst 0) := by decide +kernel
theorem i_64_42 : t_ins 64 42 = some (.putfield 34) := by decide +kernel
theorem i_64_45 : t_ins 64 45 = some (.aload_n 0) := by decide +kernel
theorem i_64_46 : t_ins 64 46 = some (.iconst 0) := by decide +kernel
theorem i_64_47 : t_ins 64 47 = some (.putfield 37) := by decide +kernel
theorem i_64_50 : t_ins 64 50 = some (.aload_n 0) := by decide +kernel
theorem i_64_51 : t_ins 64 51 = some (.iconst 0) := by decide +kernel
theorem i_64_52 : t_ins 64 52 = some (.putfield 40) := by decide +kernel
theorem i_64_55 : t_ins 64 55 = some (.aload_n 0) := by decide +kernel
theorem i_64_56 : t_ins 64 56 = some (.iconst 4) := by decide +kernel
theorem i_64_57 : t_ins 64 57 = some (.newarray .int) := by decide +kernel
theorem i_64_59 : t_ins 64 59 = some (.putfield 43) := by decide +kernel
theorem i_64_62 : t_ins 64 62 = some (.aload_n 0) := by decide +kernel
theorem i_64_63 : t_ins 64 63 = some (.iconst 0) := by decide +kernel
theorem i_64_64 : t_ins 64 64 = some (.putfield 47) := by decide +kernel
theorem i_64_67 : t_ins 64 67 = some (.aload_n 0) := by decide +kernel
theorem i_64_68 : t_ins 64 68 = some (.bipush 6) := by decide +kernel
theorem i_64_70 : t_ins 64 70 = some (.newarray .int) := by decide +kernel
theorem i_64_72 : t_ins 64 72 = some (.putfield 50) := by decide +kernel
theorem i_64_75 : t_ins 64 75 = some (.aload_n 0) := by decide +kernel
theorem i_64_76 : t_ins 64 76 = some (.bipush 6) := by decide +kernel
theorem i_64_78 : t_ins 64 78 = some (.newarray .int) := by decide +kernel
theorem i_64_80 : t_ins 64 80 = some (.putfield 53) := by decide +kernel
theorem i_64_83 : t_ins 64 83 = some (.aload_n 0) := by decide +kernel
theorem i_64_84 : t_ins 64 84 = some (.bipush 6) := by decide +kernel
theorem i_64_86 : t_ins 64 86 = some (.newarray .long) := by decide +kernel
theorem i_64_88 : t_ins 64 88 = some (.putfield 56) := by decide +kernel
theorem i_64_91 : t_ins 64 91 = some (.return_) := by decide +kernel
theorem q_64_0 : XX d 64 0 [some (.ref a)] st A Q ↔ XX d 64 1 [some (.ref a)] (.ref a :: st) A Q := c_lcl i_64_0 rfl rfl
theorem q_64_4 : XX d 64 4 [some (.ref a)] st A Q ↔ XX d 64 5 [some (.ref a)] (.ref a :: st) A Q := c_lcl i_64_4 rfl rfl
theorem q_64_5 : XX d 64 5 [v0] st A Q ↔ XX d 64 7 [v0] (.int (w 30) :: st) A Q := c_stk i_64_5 rfl
theorem q_64_13 : XX d 64 13 [some (.ref a)] st A Q ↔ XX d 64 14 [some (.ref a)] (.ref a :: st) A Q := c_lcl i_64_13 rfl rfl
theorem q_64_14 : XX d 64 14 [v0] st A Q ↔ XX d 64 15 [v0] (.int (w 0) :: st) A Q := c_stk i_64_14 rfl
theorem q_64_18 : XX d 64 18 [some (.ref a)] st A Q ↔ XX d 64 19 [some (.ref a)] (.ref a :: st) A Q := c_lcl i_64_18 rfl rfl
theorem q_64_19 : XX d 64 19 [v0] st A Q ↔ XX d 64 20 [v0] (.int (w 0) :: st) A Q := c_stk i_64_19 rfl
theorem q_64_23 : XX d 64 23 [some (.ref a)] st A Q ↔ XX d 64 24 [some (.ref a)] (.ref a :: st) A Q := c_lcl i_64_23 rfl rfl
theorem q_64_24 : XX d 64 24 [v0] st A Q ↔ XX d 64 25 [v0] (.int (w 0) :: st) A Q := c_stk i_64_24 rfl
theorem q_64_28 : XX d 64 28 [some (.ref a)] st A Q ↔ XX d 64 29 [some (.ref a)] (.ref a :: st) A Q := c_lcl i_64_28 rfl rfl
theorem q_64_29 : XX d 64 29 [v0] st A Q ↔ XX d 64 30 [v0] (.int (w (-1)) :: st) A Q := c_stk i_64_29 rfl
theorem q_64_33 : XX d 64 33 [some (.ref a)] st A Q ↔ XX d 64 34 [some (.ref a)] (.ref a :: st) A Q := c_lcl i_64_33 rfl rfl
theorem q_64_34 : XX d 64 34 [v0] st A Q ↔ XX d 64 35 [v0] (.int (w 0) :: st) A Q := c_stk i_64_34 rfl
theorem q_64_40 : XX d 64 40 [some (.ref a)] st A Q ↔ XX d 64 41 [some (.ref a)] (.ref a :: st) A Q := c_lcl i_64_40 rfl rfl
theorem q_64_41 : XX d 64 41 [v0] st A Q ↔ XX d 64 42 [v0] (.int (w 0) :: st) A Q := c_stk i_64_41 rfl
theorem q_64_45 : XX d 64 45 [some (.ref a)] st A Q ↔ XX d 64 46 [some (.ref a)] (.ref a :: st) A Q := c_lcl i_64_45 rfl rfl
theorem q_64_46 : XX d 64 46 [v0] st A Q ↔ XX d 64 47 [v0] (.int (w 0) :: st) A Q := c_stk i_64_46 rfl
theorem q_64_50 : XX d 64 50 [some (.ref a)] st A Q ↔ XX d 64 51 [some (.ref a)] (.ref a :: st) A Q := c_lcl i_64_50 rfl rfl
theorem q_64_51 : XX d 64 51 [v0] st A Q ↔ XX d 64 52 [v0] (.int (w 0) :: st) A Q := c_stk i_64_51 rfl
theorem q_64_55 : XX d 64 55 [some (.ref a)] st A Q ↔ XX d 64 56 [some (.ref a)] (.ref a :: st) A Q := c_lcl i_64_55 rfl rfl
theorem q_64_56 : XX d 64 56 [v0] st A Q ↔ XX d 64 57 [v0] (.int (w 4) :: st) A Q := c_stk i_64_56 rfl
theorem q_64_62 : XX d 64 62 [some (.ref a)] st A Q ↔ XX d 64 63 [some (.ref a)] (.ref a :: st) A Q := c_lcl i_64_62 rfl rfl
theorem q_64_63 : XX d 64 63 [v0] st A Q ↔ XX d 64 64 [v0] (.int (w 0) :: st) A Q := c_stk i_64_63 rfl
theorem q_64_67 : XX d 64 67 [some (.ref a)] st A Q ↔ XX d 64 68 [some (.ref a)] (.ref a :: st) A Q := c_lcl i_64_67 rfl rfl
theorem q_64_68 : XX d 64 68 [v0] st A Q ↔ XX d 64 70 [v0] (.int (w 6) :: st) A Q := c_stk i_64_68 rfl
theorem q_64_75 : XX d 64 75 [some (.ref a)] st A Q ↔ XX d 64 76 [some (.ref a)] (.ref a :: st) A Q := c_lcl i_64_75 rfl rfl
theorem q_64_76 : XX d 64 76 [v0] st A Q ↔ XX d 64 78 [v0] (.int (w 6) :: st) A Q := c_stk i_64_76 rfl
theorem q_64_83 : XX d 64 83 [some (.ref a)] st A Q ↔ XX d 64 84 [some (.ref a)] (.ref a :: st) A Q := c_lcl i_64_83 rfl rfl
theorem q_64_84 : XX d 64 84 [v0] st A Q ↔ XX d 64 86 [v0] (.int (w 6) :: st) A Q := c_stk i_64_84 rfl
theorem q_64_91 : XX d 64 91 [v0] [] A Q ↔ Q (.inl none) A := e_retN i_64_91 rfl
theorem q_64_e : XC d 64 [.ref a0] A Q ↔ XX d 64 0 [some (.ref a0)] [] A Q := Iff.rfl
theorem i_65_0 : t_ins 65 0 = some (.aload_n 0) := by decide +kernel
theorem i_65_1 : t_ins 65 1 = some (.aload_n 1) := by decide +kernel
theorem i_65_2 : t_ins 65 2 = some (.putfield 30) := by decide +kernel
theorem i_65_5 : t_ins 65 5 = some (.aload_n 0) := by decide +kernel
theorem i_65_6 : t_ins 65 6 = some (.iconst 0) := by decide +kernel
theorem i_65_7 : t_ins 65 7 = some (.iload_n 2) := by decide +kernel
theorem i_65_8 : t_ins 65 8 = some (.aload_n 1) := by decide +kernel
theorem i_65_9 : t_ins 65 9 = some (.arraylength) := by decide +kernel
theorem i_65_10 : t_ins 65 10 = some (.invokestatic 60) := by decide +kernel
theorem i_65_13 : t_ins 65 13 = some (.invokestatic 66) := by decide +kernel
theorem i_65_16 : t_ins 65 16 = some (.putfield 34) := by decide +kernel
theorem i_65_19 : t_ins 65 19 = some (.aload_n 0) := by decide +kernel
theorem i_65_20 : t_ins 65 20 = some (.iconst 0) := by decide +kernel
theorem i_65_21 : t_ins 65 21 = some (.putfield 37) := by decide +kernel
theorem i_65_24 : t_ins 65 24 = some (.aload_n 0) := by decide +kernel
theorem i_65_25 : t_ins 65 25 = some (.iconst 0) := by decide +kernel
theorem i_65_26 : t_ins 65 26 = some (.putfield 17) := by decide +kernel
theorem i_65_29 : t_ins 65 29 = some (.aload_n 0) := by decide +kernel
theorem i_65_30 : t_ins 65 30 = some (.iconst 0) := by decide +kernel
theorem i_65_31 : t_ins 65 31 = some (.putfield 24) := by decide +kernel
theorem i_65_34 : t_ins 65 34 = some (.aload_n 0) := by decide +kernel
theorem i_65_35 : t_ins 65 35 = some (.iconst (-1)) := by decide +kernel
theorem i_65_36 : t_ins 65 36 = some (.putfield 27) := by decide +kernel
theorem i_65_39 : t_ins 65 39 = some (.aload_n 0) := by decide +kernel
theorem i_65_40 : t_ins 65 40 = some (.invokevirtual 69) := by decide +kernel
theorem i_65_43 : t_ins 65 43 = some (.ifCond .ne 5) := by decide +kernel
theorem i_65_46 : t_ins 65 46 = some (.iconst 0) := by decide +kernel
theorem i_65_47 : t_ins 65 47 = some (.ireturn) := by decide +kernel
theorem i_65_48 : t_ins 65 48 = some (.iload 4) := by decide +kernel
theorem i_65_50 : t_ins 65 50 = some (.ifCond .eq 17) := by decide +kernel
theorem i_65_53 : t_ins 65 53 = some (.bipush 30) := by decide +kernel
theorem i_65_55 : t_ins 65 55 = some (.aload_n 3) := by decide +kernel
theorem i_65_56 : t_ins 65 56 = some (.aload_n 0) := by decide +kernel
theorem i_65_57 : t_ins 65 57 = some (.getfield 21) := by decide +kernel
theorem i_65_60 : t_ins 65 60 = some (.invokevirtual 73) := by decide +kernel
theorem i_65_63 : t_ins 65 63 = some (.isub) := by decide +kernel
theorem i_65_64 : t_ins 65 64 = some (.goto 5) := by decide +kernel
theorem i_65_67 : t_ins 65 67 = some (.bipush 30) := by decide +kernel
theorem i_65_69 : t_ins 65 69 = some (.istore 5) := by decide +kernel
theorem i_65_71 : t_ins 65 71 = some (.iconst 0) := by decide +kernel
theorem i_65_72 : t_ins 65 72 = some (.istore 6) := by decide +kernel
theorem i_65_74 : t_ins 65 74 = some (.iload 6) := by decide +kernel
theorem i_65_76 : t_ins 65 76 = some (.bipush 30) := by decide +kernel
theorem i_65_78 : t_ins 65 78 = some (.if_icmp .gt 55) := by decide +kernel
theorem i_65_81 : t_ins 65 81 = some (.aload_n 0) := by decide +kernel
theorem i_65_82 : t_ins 65 82 = some (.invokevirtual 79) := by decide +kernel
theorem i_65_85 : t_ins 65 85 = some (.aload_n 0) := by decide +kernel
theorem i_65_86 : t_ins 65 86 = some (.getfield 37) := by decide +kernel
theorem i_65_89 : t_ins 65 89 = some (.aload_n 0) := by decide +kernel
theorem i_65_90 : t_ins 65 90 = some (.getfield 34) := by decide +kernel
theorem i_65_93 : t_ins 65 93 = some (.if_icmp .lt 5) := by decide +kernel
theorem i_65_96 : t_ins 65 96 = some (.iconst 1) := by decide +kernel
theorem i_65_97 : t_ins 65 97 = some (.ireturn) := by decide +kernel
theorem i_65_98 : t_ins 65 98 = some (.aload_n 0) := by decide +kernel
theorem i_65_99 : t_ins 65 99 = some (.iload 5) := by decide +kernel
theorem i_65_101 : t_ins 65 101 = some (.invokevirtual 82) := by decide +kernel
theorem i_65_104 : t_ins 65 104 = some (.ifCond .eq 17) := by decide +kernel
theorem i_65_107 : t_ins 65 107 = some (.aload_n 0) := by decide +kernel
theorem i_65_108 : t_ins 65 108 = some (.invokevirtual 86) := by decide +kernel
theorem i_65_111 : t_ins 65 111 = some (.ifCond .eq 10) := by decide +kernel
theorem i_65_114 : t_ins 65 114 = some (.aload_n 0) := by decide +kernel
theorem i_65_115 : t_ins 65 115 = some (.invokevirtual 89) := by decide +kernel
theorem i_65_118 : t_ins 65 118 = some (.ifCond .ne 5) := by decide +kernel
theorem i_65_121 : t_ins 65 121 = some (.iconst 0) := by decide +kernel
theorem i_65_122 : t_ins 65 122 = some (.ireturn) := by decide +kernel
theorem i_65_123 : t_ins 65 123 = some (.aload_n 0) := by decide +kernel
theorem i_65_124 : t_ins 65 124 = some (.invokevirtual 92) := by decide +kernel
theorem i_65_127 : t_ins 65 127 = some (.iinc 6 1) := by decide +kernel
theorem i_65_130 : t_ins 65 130 = some (.goto (-56)) := by decide +kernel
theorem i_65_133 : t_ins 65 133 = some (.iconst 1) := by decide +kernel
theorem i_65_134 : t_ins 65 134 = some (.ireturn) := by decide +kernel
theorem q_65_0 : XX d 65 0 [some (.ref a), v1, v2, v3, v4, v5, v6] st A Q ↔ XX d 65 1 [some (.ref a), v1, v2, v3, v4, v5, v6] (.ref a :: st) A Q := c_lcl i_65_0 rfl rfl
theorem q_65_1 : XX d 65 1 [v0, some (.ref a), v2, v3, v4, v5, v6] st A Q ↔ XX d 65 2 [v0, some (.ref a), v2, v3, v4, v5, v6] (.ref a :: st) A Q := c_lcl i_65_1 rfl rfl
theorem q_65_2 : XX d 65 2 [v0, v1, v2, v3, v4, v5, v6] (.ref b :: .ref a :: st) (mk S I L R G) Q ↔ S a = some (.inr 8) ∧ XX d 65 5 [v0, v1, v2, v3, v4, v5, v6] st (mk S I L (wr R a (up (R a) 5 (some b))) G) Q := r_pfR i_65_2 rfl (by decide) rfl rfl rfl
theorem q_65_5 : XX d 65 5 [some (.ref a), v1, v2, v3, v4, v5, v6] st A Q ↔ XX d 65 6 [some (.ref a), v1, v2, v3, v4, v5, v6] (.ref a :: st) A Q := c_lcl i_65_5 rfl rfl
theorem q_65_6 : XX d 65 6 [v0, v1, v2, v3, v4, v5, v6] st A Q ↔ XX d 65 7 [v0, v1, v2, v3, v4, v5, v6] (.int (w 0) :: st) A Q := c_stk i_65_6 rfl
theorem q_65_7 : XX d 65 7 [v0, v1, some (.int x), v3, v4, v5, v6] st A Q ↔ XX d 65 8 [v0, v1, some (.int x), v3, v4, v5, v6] (.int x :: st) A Q := c_lcl i_65_7 rfl rfl
theorem q_65_8 : XX d 65 8 [v0, some (.ref a), v2, v3, v4, v5, v6] st A Q ↔ XX d 65 9 [v0, some (.ref a), v2, v3, v4, v5, v6] (.ref a :: st) A Q := c_lcl i_65_8 rfl rfl
theorem q_65_9 : XX d 65 9 [v0, v1, v2, v3, v4, v5, v6] (.ref a :: st) (mk S I L R G) Q ↔ alP (S a) (fun n => XX d 65 10 [v0, v1, v2, v3, v4, v5, v6] (.int n :: st) (mk S I L R G) Q) := r_al i_65_9
theorem q_65_10 : XX d 65 10 [v0, v1, v2, v3, v4, v5, v6] [.int y, .int x, .int x0, .ref a1] A Q ↔ XX d 65 13 [v0, v1, v2, v3, v4, v5, v6] [.int (if y < x then y else x), .int x0, .ref a1] A Q := r_min i_65_10 rfl rfl (Nat.le_of_ble_eq_true rfl)
theorem q_65_13 : XX d 65 13 [v0, v1, v2, v3, v4, v5, v6] [.int y, .int x, .ref a0] A Q ↔ XX d 65 16 [v0, v1, v2, v3, v4, v5, v6] [.int (if x < y then y else x), .ref a0] A Q := r_max i_65_13 rfl rfl (Nat.le_of_ble_eq_true rfl)
theorem q_65_16 : XX d 65 16 [v0, v1, v2, v3, v4, v5, v6] (.int x :: .ref a :: st) (mk S I L R G) Q ↔ S a = some (.inr 8) ∧ XX d 65 19 [v0, v1, v2, v3, v4, v5, v6] st (mk S (wr I a (up (I a) 6 x)) L R G) Q := r_pf i_65_16 rfl (by decide) rfl rfl rfl
theorem q_65_19 : XX d 65 19 [some (.ref a), v1, v2, v3, v4, v5, v6] st A Q ↔ XX d 65 20 [some (.ref a), v1, v2, v3, v4, v5, v6] (.ref a :: st) A Q := c_lcl i_65_19 rfl rfl
theorem q_65_20 : XX d 65 20 [v0, v1, v2, v3, v4, v5, v6] st A Q ↔ XX d 65 21 [v0, v1, v2, v3, v4, v5, v6] (.int (w 0) :: st) A Q := c_stk i_65_20 rfl
theorem q_65_21 : XX d 65 21 [v0, v1, v2, v3, v4, v5, v6] (.int x :: .ref a :: st) (mk S I L R G) Q ↔ S a = some (.inr 8) ∧ XX d 65 24 [v0, v1, v2, v3, v4, v5, v6] st (mk S (wr I a (up (I a) 7 x)) L R G) Q := r_pf i_65_21 rfl (by decide) rfl rfl rfl
theorem q_65_24 : XX d 65 24 [some (.ref a), v1, v2, v3, v4, v5, v6] st A Q ↔ XX d 65 25 [some (.ref a), v1, v2, v3, v4, v5, v6] (.ref a :: st) A Q := c_lcl i_65_24 rfl rfl
theorem q_65_25 : XX d 65 25 [v0, v1, v2, v3, v4, v5, v6] st A Q ↔ XX d 65 26 [v0, v1, v2, v3, v4, v5, v6] (.int (w 0) :: st) A Q := c_stk i_65_25 rfl
theorem q_65_26 : XX d 65 26 [v0, v1, v2, v3, v4, v5, v6] (.int x :: .ref a :: st) (mk S I L R G) Q ↔ S a = some (.inr 8) ∧ XX d 65 29 [v0, v1, v2, v3, v4, v5, v6] st (mk S (wr I a (up (I a) 1 x)) L R G) Q := r_pf i_65_26 rfl (by decide) rfl rfl rfl
theorem q_65_29 : XX d 65 29 [some (.ref a), v1, v2, v3, v4, v5, v6] st A Q ↔ XX d 65 30 [some (.ref a), v1, v2, v3, v4, v5, v6] (.ref a :: st) A Q := c_lcl i_65_29 rfl rfl
theorem q_65_30 : XX d 65 30 [v0, v1, v2, v3, v4, v5, v6] st A Q ↔ XX d 65 31 [v0, v1, v2, v3, v4, v5, v6] (.int (w 0) :: st) A Q := c_stk i_65_30 rfl
theorem q_65_31 : XX d 65 31 [v0, v1, v2, v3, v4, v5, v6] (.int x :: .ref a :: st) (mk S I L R G) Q ↔ S a = some (.inr 8) ∧ XX d 65 34 [v0, v1, v2, v3, v4, v5, v6] st (mk S (wr I a (up (I a) 3 x)) L R G) Q := r_pf i_65_31 rfl (by decide) rfl rfl rfl
theorem q_65_34 : XX d 65 34 [some (.ref a), v1, v2, v3, v4, v5, v6] st A Q ↔ XX d 65 35 [some (.ref a), v1, v2, v3, v4, v5, v6] (.ref a :: st) A Q := c_lcl i_65_34 rfl rfl
theorem q_65_35 : XX d 65 35 [v0, v1, v2, v3, v4, v5, v6] st A Q ↔ XX d 65 36 [v0, v1, v2, v3, v4, v5, v6] (.int (w (-1)) :: st) A Q := c_stk i_65_35 rfl
theorem q_65_36 : XX d 65 36 [v0, v1, v2, v3, v4, v5, v6] (.int x :: .ref a :: st) (mk S I L R G) Q ↔ S a = some (.inr 8) ∧ XX d 65 39 [v0, v1, v2, v3, v4, v5, v6] st (mk S (wr I a (up (I a) 4 x)) L R G) Q := r_pf i_65_36 rfl (by decide) rfl rfl rfl
theorem q_65_39 : XX d 65 39 [some (.ref a), v1, v2, v3, v4, v5, v6] st A Q ↔ XX d 65 40 [some (.ref a), v1, v2, v3, v4, v5, v6] (.ref a :: st) A Q := c_lcl i_65_39 rfl rfl
theorem q_65_40 : XX (d + 1) 65 40 [v0, v1, v2, v3, v4, v5, v6] [.ref a0] (mk S I L R G) Q ↔ S a0 = some (.inr 8) ∧ XC d 66 [.ref a0] (mk S I L R G) (XK (d + 1) 65 40 [v0, v1, v2, v3, v4, v5, v6] [] Q) := c_callV i_65_40 rfl rfl rfl rfl (Nat.le_of_ble_eq_true rfl) (Nat.le_of_ble_eq_true rfl) rfl
theorem q_65_43 : XX d 65 43 [v0, v1, v2, v3, v4, v5, v6] (.int x :: st) A Q ↔ if x = w 0 then XX d 65 46 [v0, v1, v2, v3, v4, v5, v6] st A Q else XX d 65 48 [v0, v1, v2, v3, v4, v5, v6] st A Q := z_ne i_65_43 rfl rfl rfl
theorem q_65_46 : XX d 65 46 [v0, v1, v2, v3, v4, v5, v6] st A Q ↔ XX d 65 47 [v0, v1, v2, v3, v4, v5, v6] (.int (w 0) :: st) A Q := c_stk i_65_46 rfl
theorem q_65_47 : XX d 65 47 [v0, v1, v2, v3, v4, v5, v6] [.int x] A Q ↔ (x = w 0 ∨ x = w 1) ∧ Q (.inl (some (.int x))) A := e_retZ i_65_47 rfl
theorem q_65_48 : XX d 65 48 [v0, v1, v2, v3, some (.int x), v5, v6] st A Q ↔ XX d 65 50 [v0, v1, v2, v3, some (.int x), v5, v6] (.int x :: st) A Q := c_lcl i_65_48 rfl rfl
theorem q_65_50 : XX d 65 50 [v0, v1, v2, v3, v4, v5, v6] (.int x :: st) A Q ↔ if x = w 0 then XX d 65 67 [v0, v1, v2, v3, v4, v5, v6] st A Q else XX d 65 53 [v0, v1, v2, v3, v4, v5, v6] st A Q := z_eq i_65_50 rfl rfl rfl
theorem q_65_53 : XX d 65 53 [v0, v1, v2, v3, v4, v5, v6] st A Q ↔ XX d 65 55 [v0, v1, v2, v3, v4, v5, v6] (.int (w 30) :: st) A Q := c_stk i_65_53 rfl
theorem q_65_55 : XX d 65 55 [v0, v1, v2, some (.ref a), v4, v5, v6] st A Q ↔ XX d 65 56 [v0, v1, v2, some (.ref a), v4, v5, v6] (.ref a :: st) A Q := c_lcl i_65_55 rfl rfl
theorem q_65_56 : XX d 65 56 [some (.ref a), v1, v2, v3, v4, v5, v6] st A Q ↔ XX d 65 57 [some (.ref a), v1, v2, v3, v4, v5, v6] (.ref a :: st) A Q := c_lcl i_65_56 rfl rfl
theorem q_65_57 : XX d 65 57 [v0, v1, v2, v3, v4, v5, v6] (.ref a :: st) (mk S I L R G) Q ↔ S a = some (.inr 8) ∧ XX d 65 60 [v0, v1, v2, v3, v4, v5, v6] (.int (I a 2) :: st) (mk S I L R G) Q := r_gf i_65_57 rfl (by decide) rfl
theorem q_65_60 : XX (d + 1) 65 60 [v0, v1, v2, v3, v4, v5, v6] [.int x1, .ref a0, .int x2] (mk S I L R G) Q ↔ S a0 = some (.inr 0) ∧ XC d 1 [.ref a0, .int x1] (mk S I L R G) (XK (d + 1) 65 60 [v0, v1, v2, v3, v4, v5, v6] [.int x2] Q) := c_callV i_65_60 rfl rfl rfl rfl (Nat.le_of_ble_eq_true rfl) (Nat.le_of_ble_eq_true rfl) rfl
theorem q_65_63 : XX d 65 63 [v0, v1, v2, v3, v4, v5, v6] (.int y :: .int x :: st) A Q ↔ XX d 65 64 [v0, v1, v2, v3, v4, v5, v6] (.int (x - y) :: st) A Q := c_stk i_65_63 rfl
theorem q_65_64 : XX d 65 64 [v0, v1, v2, v3, v4, v5, v6] st A Q ↔ XX d 65 69 [v0, v1, v2, v3, v4, v5, v6] st A Q := c_go i_65_64 rfl rfl
theorem q_65_67 : XX d 65 67 [v0, v1, v2, v3, v4, v5, v6] st A Q ↔ XX d 65 69 [v0, v1, v2, v3, v4, v5, v6] (.int (w 30) :: st) A Q := c_stk i_65_67 rfl
theorem q_65_69 : XX d 65 69 [v0, v1, v2, v3, some (.int z), v5, v6] (.int x :: st) A Q ↔ XX d 65 71 [v0, v1, v2, v3, some (.int z), some (.int x), v6] st A Q := c_lcl i_65_69 rfl rfl
theorem q_65_71 : XX d 65 71 [v0, v1, v2, v3, v4, v5, v6] st A Q ↔ XX d 65 72 [v0, v1, v2, v3, v4, v5, v6] (.int (w 0) :: st) A Q := c_stk i_65_71 rfl
theorem q_65_72 : XX d 65 72 [v0, v1, v2, v3, v4, some (.int z), v6] (.int x :: st) A Q ↔ XX d 65 74 [v0, v1, v2, v3, v4, some (.int z), some (.int x)] st A Q := c_lcl i_65_72 rfl rfl
theorem q_65_74 : XX d 65 74 [v0, v1, v2, v3, v4, v5, some (.int x)] st A Q ↔ XX d 65 76 [v0, v1, v2, v3, v4, v5, some (.int x)] (.int x :: st) A Q := c_lcl i_65_74 rfl rfl
theorem q_65_76 : XX d 65 76 [v0, v1, v2, v3, v4, v5, v6] st A Q ↔ XX d 65 78 [v0, v1, v2, v3, v4, v5, v6] (.int (w 30) :: st) A Q := c_stk i_65_76 rfl
theorem q_65_78 : XX d 65 78 [v0, v1, v2, v3, v4, v5, v6] (.int y :: .int x :: st) A Q ↔ if y < x then XX d 65 133 [v0, v1, v2, v3, v4, v5, v6] st A Q else XX d 65 81 [v0, v1, v2, v3, v4, v5, v6] st A Q := b_gt i_65_78 rfl rfl rfl
theorem q_65_81 : XX d 65 81 [some (.ref a), v1, v2, v3, v4, v5, v6] st A Q ↔ XX d 65 82 [some (.ref a), v1, v2, v3, v4, v5, v6] (.ref a :: st) A Q := c_lcl i_65_81 rfl rfl
theorem q_65_82 : XX (d + 1) 65 82 [v0, v1, v2, v3, v4, v5, v6] [.ref a0] (mk S I L R G) Q ↔ S a0 = some (.inr 8) ∧ XC d 76 [.ref a0] (mk S I L R G) (XK (d + 1) 65 82 [v0, v1, v2, v3, v4, v5, v6] [] Q) := c_callV i_65_82 rfl rfl rfl rfl (Nat.le_of_ble_eq_true rfl) (Nat.le_of_ble_eq_true rfl) rfl
theorem q_65_85 : XX d 65 85 [some (.ref a), v1, v2, v3, v4, v5, v6] st A Q ↔ XX d 65 86 [some (.ref a), v1, v2, v3, v4, v5, v6] (.ref a :: st) A Q := c_lcl i_65_85 rfl rfl
theorem q_65_86 : XX d 65 86 [v0, v1, v2, v3, v4, v5, v6] (.ref a :: st) (mk S I L R G) Q ↔ S a = some (.inr 8) ∧ XX d 65 89 [v0, v1, v2, v3, v4, v5, v6] (.int (I a 7) :: st) (mk S I L R G) Q := r_gf i_65_86 rfl (by decide) rfl
theorem q_65_89 : XX d 65 89 [some (.ref a), v1, v2, v3, v4, v5, v6] st A Q ↔ XX d 65 90 [some (.ref a), v1, v2, v3, v4, v5, v6] (.ref a :: st) A Q := c_lcl i_65_89 rfl rfl
theorem q_65_90 : XX d 65 90 [v0, v1, v2, v3, v4, v5, v6] (.ref a :: st) (mk S I L R G) Q ↔ S a = some (.inr 8) ∧ XX d 65 93 [v0, v1, v2, v3, v4, v5, v6] (.int (I a 6) :: st) (mk S I L R G) Q := r_gf i_65_90 rfl (by decide) rfl
theorem q_65_93 : XX d 65 93 [v0, v1, v2, v3, v4, v5, v6] (.int y :: .int x :: st) A Q ↔ if x < y then XX d 65 98 [v0, v1, v2, v3, v4, v5, v6] st A Q else XX d 65 96 [v0, v1, v2, v3, v4, v5, v6] st A Q := b_lt i_65_93 rfl rfl rfl
theorem q_65_96 : XX d 65 96 [v0, v1, v2, v3, v4, v5, v6] st A Q ↔ XX d 65 97 [v0, v1, v2, v3, v4, v5, v6] (.int (w 1) :: st) A Q := c_stk i_65_96 rfl
theorem q_65_97 : XX d 65 97 [v0, v1, v2, v3, v4, v5, v6] [.int x] A Q ↔ (x = w 0 ∨ x = w 1) ∧ Q (.inl (some (.int x))) A := e_retZ i_65_97 rfl
theorem q_65_98 : XX d 65 98 [some (.ref a), v1, v2, v3, v4, v5, v6] st A Q ↔ XX d 65 99 [some (.ref a), v1, v2, v3, v4, v5, v6] (.ref a :: st) A Q := c_lcl i_65_98 rfl rfl
theorem q_65_99 : XX d 65 99 [v0, v1, v2, v3, v4, some (.int x), v6] st A Q ↔ XX d 65 101 [v0, v1, v2, v3, v4, some (.int x), v6] (.int x :: st) A Q := c_lcl i_65_99 rfl rfl
theorem q_65_101 : XX (d + 1) 65 101 [v0, v1, v2, v3, v4, v5, v6] [.int x1, .ref a0] (mk S I L R G) Q ↔ S a0 = some (.inr 8) ∧ XC d 67 [.ref a0, .int x1] (mk S I L R G) (XK (d + 1) 65 101 [v0, v1, v2, v3, v4, v5, v6] [] Q) := c_callV i_65_101 rfl rfl rfl rfl (Nat.le_of_ble_eq_true rfl) (Nat.le_of_ble_eq_true rfl) rfl
theorem q_65_104 : XX d 65 104 [v0, v1, v2, v3, v4, v5, v6] (.int x :: st) A Q ↔ if x = w 0 then XX d 65 121 [v0, v1, v2, v3, v4, v5, v6] st A Q else XX d 65 107 [v0, v1, v2, v3, v4, v5, v6] st A Q := z_eq i_65_104 rfl rfl rfl
theorem q_65_107 : XX d 65 107 [some (.ref a), v1, v2, v3, v4, v5, v6] st A Q ↔ XX d 65 108 [some (.ref a), v1, v2, v3, v4, v5, v6] (.ref a :: st) A Q := c_lcl i_65_107 rfl rfl
theorem q_65_108 : XX (d + 1) 65 108 [v0, v1, v2, v3, v4, v5, v6] [.ref a0] (mk S I L R G) Q ↔ S a0 = some (.inr 8) ∧ XC d 69 [.ref a0] (mk S I L R G) (XK (d + 1) 65 108 [v0, v1, v2, v3, v4, v5, v6] [] Q) := c_callV i_65_108 rfl rfl rfl rfl (Nat.le_of_ble_eq_true rfl) (Nat.le_of_ble_eq_true rfl) rfl
theorem q_65_111 : XX d 65 111 [v0, v1, v2, v3, v4, v5, v6] (.int x :: st) A Q ↔ if x = w 0 then XX d 65 121 [v0, v1, v2, v3, v4, v5, v6] st A Q else XX d 65 114 [v0, v1, v2, v3, v4, v5, v6] st A Q := z_eq i_65_111 rfl rfl rfl
theorem q_65_114 : XX d 65 114 [some (.ref a), v1, v2, v3, v4, v5, v6] st A Q ↔ XX d 65 115 [some (.ref a), v1, v2, v3, v4, v5, v6] (.ref a :: st) A Q := c_lcl i_65_114 rfl rfl
theorem q_65_115 : XX (d + 1) 65 115 [v0, v1, v2, v3, v4, v5, v6] [.ref a0] (mk S I L R G) Q ↔ S a0 = some (.inr 8) ∧ XC d 70 [.ref a0] (mk S I L R G) (XK (d + 1) 65 115 [v0, v1, v2, v3, v4, v5, v6] [] Q) := c_callV i_65_115 rfl rfl rfl rfl (Nat.le_of_ble_eq_true rfl) (Nat.le_of_ble_eq_true rfl) rfl
theorem q_65_118 : XX d 65 118 [v0, v1, v2, v3, v4, v5, v6] (.int x :: st) A Q ↔ if x = w 0 then XX d 65 121 [v0, v1, v2, v3, v4, v5, v6] st A Q else XX d 65 123 [v0, v1, v2, v3, v4, v5, v6] st A Q := z_ne i_65_118 rfl rfl rfl
theorem q_65_121 : XX d 65 121 [v0, v1, v2, v3, v4, v5, v6] st A Q ↔ XX d 65 122 [v0, v1, v2, v3, v4, v5, v6] (.int (w 0) :: st) A Q := c_stk i_65_121 rfl
theorem q_65_122 : XX d 65 122 [v0, v1, v2, v3, v4, v5, v6] [.int x] A Q ↔ (x = w 0 ∨ x = w 1) ∧ Q (.inl (some (.int x))) A := e_retZ i_65_122 rfl
theorem q_65_123 : XX d 65 123 [some (.ref a), v1, v2, v3, v4, v5, v6] st A Q ↔ XX d 65 124 [some (.ref a), v1, v2, v3, v4, v5, v6] (.ref a :: st) A Q := c_lcl i_65_123 rfl rfl
theorem q_65_124 : XX (d + 1) 65 124 [v0, v1, v2, v3, v4, v5, v6] [.ref a0] (mk S I L R G) Q ↔ S a0 = some (.inr 8) ∧ XC d 68 [.ref a0] (mk S I L R G) (XK (d + 1) 65 124 [v0, v1, v2, v3, v4, v5, v6] [] Q) := c_callV i_65_124 rfl rfl rfl rfl (Nat.le_of_ble_eq_true rfl) (Nat.le_of_ble_eq_true rfl) rfl
theorem q_65_127 : XX d 65 127 [v0, v1, v2, v3, v4, some (.int z), some (.int x)] st A Q ↔ XX d 65 130 [v0, v1, v2, v3, v4, some (.int z), some (.int (x + w 1))] st A Q := c_lcl i_65_127 rfl rfl
theorem q_65_130 : XX d 65 130 [v0, v1, v2, v3, v4, v5, v6] st A Q ↔ XX d 65 74 [v0, v1, v2, v3, v4, v5, v6] st A Q := c_go i_65_130 rfl rfl
theorem q_65_133 : XX d 65 133 [v0, v1, v2, v3, v4, v5, v6] st A Q ↔ XX d 65 134 [v0, v1, v2, v3, v4, v5, v6] (.int (w 1) :: st) A Q := c_stk i_65_133 rfl
theorem q_65_134 : XX d 65 134 [v0, v1, v2, v3, v4, v5, v6] [.int x] A Q ↔ (x = w 0 ∨ x = w 1) ∧ Q (.inl (some (.int x))) A := e_retZ i_65_134 rfl
theorem q_65_e : XC d 65 [.ref a0, .ref a1, .int x2, .ref a3, .int x4] A Q ↔ XX d 65 0 [some (.ref a0), some (.ref a1), some (.int x2), some (.ref a3), some (.int x4), none, none] [] A Q := Iff.rfl
theorem i_66_0 : t_ins 66 0 = some (.aload_n 0) := by decide +kernel
theorem i_66_1 : t_ins 66 1 = some (.ldc 95) := by decide +kernel
theorem i_66_3 : t_ins 66 3 = some (.invokevirtual 96) := by decide +kernel
theorem i_66_6 : t_ins 66 6 = some (.ifCond .ne 13) := by decide +kernel
theorem i_66_9 : t_ins 66 9 = some (.aload_n 0) := by decide +kernel
theorem i_66_10 : t_ins 66 10 = some (.iconst 1) := by decide +kernel
theorem i_66_11 : t_ins 66 11 = some (.aload_n 0) := by decide +kernel
theorem i_66_12 : t_ins 66 12 = some (.getfield 37) := by decide +kernel
theorem i_66_15 : t_ins 66 15 = some (.invokevirtual 100) := by decide +kernel
theorem i_66_18 : t_ins 66 18 = some (.ireturn) := by decide +kernel
theorem i_66_19 : t_ins 66 19 = some (.aload_n 0) := by decide +kernel
theorem i_66_20 : t_ins 66 20 = some (.iconst 0) := by decide +kernel
theorem i_66_21 : t_ins 66 21 = some (.iconst 1) := by decide +kernel
theorem i_66_22 : t_ins 66 22 = some (.invokevirtual 104) := by decide +kernel
theorem i_66_25 : t_ins 66 25 = some (.ifCond .ne 5) := by decide +kernel
theorem i_66_28 : t_ins 66 28 = some (.iconst 0) := by decide +kernel
theorem i_66_29 : t_ins 66 29 = some (.ireturn) := by decide +kernel
theorem i_66_30 : t_ins 66 30 = some (.aload_n 0) := by decide +kernel
theorem i_66_31 : t_ins 66 31 = some (.aload_n 0) := by decide +kernel
theorem i_66_32 : t_ins 66 32 = some (.getfield 40) := by decide +kernel
theorem i_66_35 : t_ins 66 35 = some (.putfield 21) := by decide +kernel
theorem i_66_38 : t_ins 66 38 = some (.aload_n 0) := by decide +kernel
theorem i_66_39 : t_ins 66 39 = some (.invokevirtual 79) := by decide +kernel
theorem i_66_42 : t_ins 66 42 = some (.aload_n 0) := by decide +kernel
theorem i_66_43 : t_ins 66 43 = some (.invokevirtual 107) := by decide +kernel
theorem i_66_46 : t_ins 66 46 = some (.bipush 59) := by decide +kernel
theorem i_66_48 : t_ins 66 48 = some (.if_icmp .eq 13) := by decide +kernel
theorem i_66_51 : t_ins 66 51 = some (.aload_n 0) := by decide +kernel
theorem i_66_52 : t_ins 66 52 = some (.iconst 1) := by decide +kernel
theorem i_66_53 : t_ins 66 53 = some (.aload_n 0) := by decide +kernel
theorem i_66_54 : t_ins 66 54 = some (.getfield 37) := by decide +kernel
theorem i_66_57 : t_ins 66 57 = some (.invokevirtual 100) := by decide +kernel
theorem i_66_60 : t_ins 66 60 = some (.ireturn) := by decide +kernel
theorem i_66_61 : t_ins 66 61 = some (.aload_n 0) := by decide +kernel
theorem i_66_62 : t_ins 66 62 = some (.dup) := by decide +kernel
theorem i_66_63 : t_ins 66 63 = some (.getfield 37) := by decide +kernel
theorem i_66_66 : t_ins 66 66 = some (.iconst 1) := by decide +kernel
theorem i_66_67 : t_ins 66 67 = some (.iadd) := by decide +kernel
theorem i_66_68 : t_ins 66 68 = some (.putfield 37) := by decide +kernel
theorem i_66_71 : t_ins 66 71 = some (.iconst 1) := by decide +kernel
theorem i_66_72 : t_ins 66 72 = some (.ireturn) := by decide +kernel
theorem q_66_0 : XX d 66 0 [some (.ref a)] st A Q ↔ XX d 66 1 [some (.ref a)] (.ref a :: st) A Q := c_lcl i_66_0 rfl rfl
theorem q_66_1 : XX d 66 1 [v0] st (mk S I L R G) Q ↔ XX d 66 3 [v0] (.ref (G.2.2 1) :: st) (mk S I L R G) Q := r_lds i_66_1 rfl rfl
theorem q_66_3 : XX (d + 1) 66 3 [v0] [.ref a1, .ref a0] (mk S I L R G) Q ↔ S a0 = some (.inr 8) ∧ XC d 74 [.ref a0, .ref a1] (mk S I L R G) (XK (d + 1) 66 3 [v0] [] Q) := c_callV i_66_3 rfl rfl rfl rfl (Nat.le_of_ble_eq_true rfl) (Nat.le_of_ble_eq_true rfl) rfl
theorem q_66_6 : XX d 66 6 [v0] (.int x :: st) A Q ↔ if x = w 0 then XX d 66 9 [v0] st A Q else XX d 66 19 [v0] st A Q := z_ne i_66_6 rfl rfl rfl
theorem q_66_9 : XX d 66 9 [some (.ref a)] st A Q ↔ XX d 66 10 [some (.ref a)] (.ref a :: st) A Q := c_lcl i_66_9 rfl rfl
theorem q_66_10 : XX d 66 10 [v0] st A Q ↔ XX d 66 11 [v0] (.int (w 1) :: st) A Q := c_stk i_66_10 rfl
theorem q_66_11 : XX d 66 11 [some (.ref a)] st A Q ↔ XX d 66 12 [some (.ref a)] (.ref a :: st) A Q := c_lcl i_66_11 rfl rfl
theorem q_66_12 : XX d 66 12 [v0] (.ref a :: st) (mk S I L R G) Q ↔ S a = some (.inr 8) ∧ XX d 66 15 [v0] (.int (I a 7) :: st) (mk S I L R G) Q := r_gf i_66_12 rfl (by decide) rfl
theorem q_66_15 : XX (d + 1) 66 15 [v0] [.int x2, .int x1, .ref a0] (mk S I L R G) Q ↔ S a0 = some (.inr 8) ∧ XC d 79 [.ref a0, .int x1, .int x2] (mk S I L R G) (XK (d + 1) 66 15 [v0] [] Q) := c_callV i_66_15 rfl rfl rfl rfl (Nat.le_of_ble_eq_true rfl) (Nat.le_of_ble_eq_true rfl) rfl
theorem q_66_18 : XX d 66 18 [v0] [.int x] A Q ↔ (x = w 0 ∨ x = w 1) ∧ Q (.inl (some (.int x))) A := e_retZ i_66_18 rfl
theorem q_66_19 : XX d 66 19 [some (.ref a)] st A Q ↔ XX d 66 20 [some (.ref a)] (.ref a :: st) A Q := c_lcl i_66_19 rfl rfl
theorem q_66_20 : XX d 66 20 [v0] st A Q ↔ XX d 66 21 [v0] (.int (w 0) :: st) A Q := c_stk i_66_20 rfl
theorem q_66_21 : XX d 66 21 [v0] st A Q ↔ XX d 66 22 [v0] (.int (w 1) :: st) A Q := c_stk i_66_21 rfl
theorem q_66_22 : XX (d + 1) 66 22 [v0] [.int x2, .int x1, .ref a0] (mk S I L R G) Q ↔ S a0 = some (.inr 8) ∧ XC d 73 [.ref a0, .int x1, .int x2] (mk S I L R G) (XK (d + 1) 66 22 [v0] [] Q) := c_callV i_66_22 rfl rfl rfl rfl (Nat.le_of_ble_eq_true rfl) (Nat.le_of_ble_eq_true rfl) rfl
theorem q_66_25 : XX d 66 25 [v0] (.int x :: st) A Q ↔ if x = w 0 then XX d 66 28 [v0] st A Q else XX d 66 30 [v0] st A Q := z_ne i_66_25 rfl rfl rfl
theorem q_66_28 : XX d 66 28 [v0] st A Q ↔ XX d 66 29 [v0] (.int (w 0) :: st) A Q := c_stk i_66_28 rfl
theorem q_66_29 : XX d 66 29 [v0] [.int x] A Q ↔ (x = w 0 ∨ x = w 1) ∧ Q (.inl (some (.int x))) A := e_retZ i_66_29 rfl
theorem q_66_30 : XX d 66 30 [some (.ref a)] st A Q ↔ XX d 66 31 [some (.ref a)] (.ref a :: st) A Q := c_lcl i_66_30 rfl rfl
theorem q_66_31 : XX d 66 31 [some (.ref a)] st A Q ↔ XX d 66 32 [some (.ref a)] (.ref a :: st) A Q := c_lcl i_66_31 rfl rfl
theorem q_66_32 : XX d 66 32 [v0] (.ref a :: st) (mk S I L R G) Q ↔ S a = some (.inr 8) ∧ XX d 66 35 [v0] (.int (I a 8) :: st) (mk S I L R G) Q := r_gf i_66_32 rfl (by decide) rfl
theorem q_66_35 : XX d 66 35 [v0] (.int x :: .ref a :: st) (mk S I L R G) Q ↔ S a = some (.inr 8) ∧ XX d 66 38 [v0] st (mk S (wr I a (up (I a) 2 x)) L R G) Q := r_pf i_66_35 rfl (by decide) rfl rfl rfl
theorem q_66_38 : XX d 66 38 [some (.ref a)] st A Q ↔ XX d 66 39 [some (.ref a)] (.ref a :: st) A Q := c_lcl i_66_38 rfl rfl
theorem q_66_39 : XX (d + 1) 66 39 [v0] [.ref a0] (mk S I L R G) Q ↔ S a0 = some (.inr 8) ∧ XC d 76 [.ref a0] (mk S I L R G) (XK (d + 1) 66 39 [v0] [] Q) := c_callV i_66_39 rfl rfl rfl rfl (Nat.le_of_ble_eq_true rfl) (Nat.le_of_ble_eq_true rfl) rfl
theorem q_66_42 : XX d 66 42 [some (.ref a)] st A Q ↔ XX d 66 43 [some (.ref a)] (.ref a :: st) A Q := c_lcl i_66_42 rfl rfl
theorem q_66_43 : XX (d + 1) 66 43 [v0] [.ref a0] (mk S I L R G) Q ↔ S a0 = some (.inr 8) ∧ XC d 77 [.ref a0] (mk S I L R G) (XK (d + 1) 66 43 [v0] [] Q) := c_callV i_66_43 rfl rfl rfl rfl (Nat.le_of_ble_eq_true rfl) (Nat.le_of_ble_eq_true rfl) rfl
theorem q_66_46 : XX d 66 46 [v0] st A Q ↔ XX d 66 48 [v0] (.int (w 59) :: st) A Q := c_stk i_66_46 rfl
theorem q_66_48 : XX d 66 48 [v0] (.int y :: .int x :: st) A Q ↔ if x = y then XX d 66 61 [v0] st A Q else XX d 66 51 [v0] st A Q := b_eq i_66_48 rfl rfl rfl
theorem q_66_51 : XX d 66 51 [some (.ref a)] st A Q ↔ XX d 66 52 [some (.ref a)] (.ref a :: st) A Q := c_lcl i_66_51 rfl rfl
theorem q_66_52 : XX d 66 52 [v0] st A Q ↔ XX d 66 53 [v0] (.int (w 1) :: st) A Q := c_stk i_66_52 rfl
theorem q_66_53 : XX d 66 53 [some (.ref a)] st A Q ↔ XX d 66 54 [some (.ref a)] (.ref a :: st) A Q := c_lcl i_66_53 rfl rfl
theorem q_66_54 : XX d 66 54 [v0] (.ref a :: st) (mk S I L R G) Q ↔ S a = some (.inr 8) ∧ XX d 66 57 [v0] (.int (I a 7) :: st) (mk S I L R G) Q := r_gf i_66_54 rfl (by decide) rfl
theorem q_66_57 : XX (d + 1) 66 57 [v0] [.int x2, .int x1, .ref a0] (mk S I L R G) Q ↔ S a0 = some (.inr 8) ∧ XC d 79 [.ref a0, .int x1, .int x2] (mk S I L R G) (XK (d + 1) 66 57 [v0] [] Q) := c_callV i_66_57 rfl rfl rfl rfl (Nat.le_of_ble_eq_true rfl) (Nat.le_of_ble_eq_true rfl) rfl
theorem q_66_60 : XX d 66 60 [v0] [.int x] A Q ↔ (x = w 0 ∨ x = w 1) ∧ Q (.inl (some (.int x))) A := e_retZ i_66_60 rfl
theorem q_66_61 : XX d 66 61 [some (.ref a)] st A Q ↔ XX d 66 62 [some (.ref a)] (.ref a :: st) A Q := c_lcl i_66_61 rfl rfl
theorem q_66_62 : XX d 66 62 [v0] (.ref a1 :: st) A Q ↔ XX d 66 63 [v0] (.ref a1 :: .ref a1 :: st) A Q := c_stk i_66_62 rfl
theorem q_66_63 : XX d 66 63 [v0] (.ref a :: st) (mk S I L R G) Q ↔ S a = some (.inr 8) ∧ XX d 66 66 [v0] (.int (I a 7) :: st) (mk S I L R G) Q := r_gf i_66_63 rfl (by decide) rfl
theorem q_66_66 : XX d 66 66 [v0] st A Q ↔ XX d 66 67 [v0] (.int (w 1) :: st) A Q := c_stk i_66_66 rfl
theorem q_66_67 : XX d 66 67 [v0] (.int y :: .int x :: st) A Q ↔ XX d 66 68 [v0] (.int (x + y) :: st) A Q := c_stk i_66_67 rfl
theorem q_66_68 : XX d 66 68 [v0] (.int x :: .ref a :: st) (mk S I L R G) Q ↔ S a = some (.inr 8) ∧ XX d 66 71 [v0] st (mk S (wr I a (up (I a) 7 x)) L R G) Q := r_pf i_66_68 rfl (by decide) rfl rfl rfl
theorem q_66_71 : XX d 66 71 [v0] st A Q ↔ XX d 66 72 [v0] (.int (w 1) :: st) A Q := c_stk i_66_71 rfl
theorem q_66_72 : XX d 66 72 [v0] [.int x] A Q ↔ (x = w 0 ∨ x = w 1) ∧ Q (.inl (some (.int x))) A := e_retZ i_66_72 rfl
theorem q_66_e : XC d 66 [.ref a0] A Q ↔ XX d 66 0 [some (.ref a0)] [] A Q := Iff.rfl
theorem i_67_0 : t_ins 67 0 = some (.aload_n 0) := by decide +kernel
theorem i_67_1 : t_ins 67 1 = some (.getfield 37) := by decide +kernel
theorem i_67_4 : t_ins 67 4 = some (.istore_n 2) := by decide +kernel
theorem i_67_5 : t_ins 67 5 = some (.aload_n 0) := by decide +kernel
theorem i_67_6 : t_ins 67 6 = some (.ldc 111) := by decide +kernel
theorem i_67_8 : t_ins 67 8 = some (.invokevirtual 96) := by decide +kernel
theorem i_67_11 : t_ins 67 11 = some (.ifCond .ne 10) := by decide +kernel
theorem i_67_14 : t_ins 67 14 = some (.aload_n 0) := by decide +kernel
theorem i_67_15 : t_ins 67 15 = some (.iconst 1) := by decide +kernel
theorem i_67_16 : t_ins 67 16 = some (.iload_n 2) := by decide +kernel
theorem i_67_17 : t_ins 67 17 = some (.invokevirtual 100) := by decide +kernel
theorem i_67_20 : t_ins 67 20 = some (.ireturn) := by decide +kernel
theorem i_67_21 : t_ins 67 21 = some (.aload_n 0) := by decide +kernel
theorem i_67_22 : t_ins 67 22 = some (.getfield 17) := by decide +kernel
theorem i_67_25 : t_ins 67 25 = some (.iload_n 1) := by decide +kernel
theorem i_67_26 : t_ins 67 26 = some (.if_icmp .lt 12) := by decide +kernel
theorem i_67_29 : t_ins 67 29 = some (.aload_n 0) := by decide +kernel
theorem i_67_30 : t_ins 67 30 = some (.iconst 3) := by decide +kernel
theorem i_67_31 : t_ins 67 31 = some (.iload_n 2) := by decide +kernel
theorem i_67_32 : t_ins 67 32 = some (.invokevirtual 100) := by decide +kernel
theorem i_67_35 : t_ins 67 35 = some (.ifCond .eq 7) := by decide +kernel
theorem i_67_38 : t_ins 67 38 = some (.iconst 1) := by decide +kernel
theorem i_67_39 : t_ins 67 39 = some (.goto 4) := by decide +kernel
theorem i_67_42 : t_ins 67 42 = some (.iconst 0) := by decide +kernel
theorem i_67_43 : t_ins 67 43 = some (.ireturn) := by decide +kernel
theorem q_67_0 : XX d 67 0 [some (.ref a), v1, v2] st A Q ↔ XX d 67 1 [some (.ref a), v1, v2] (.ref a :: st) A Q := c_lcl i_67_0 rfl rfl
theorem q_67_1 : XX d 67 1 [v0, v1, v2] (.ref a :: st) (mk S I L R G) Q ↔ S a = some (.inr 8) ∧ XX d 67 4 [v0, v1, v2] (.int (I a 7) :: st) (mk S I L R G) Q := r_gf i_67_1 rfl (by decide) rfl
theorem q_67_4 : XX d 67 4 [v0, some (.int z), v2] (.int x :: st) A Q ↔ XX d 67 5 [v0, some (.int z), some (.int x)] st A Q := c_lcl i_67_4 rfl rfl
theorem q_67_5 : XX d 67 5 [some (.ref a), v1, v2] st A Q ↔ XX d 67 6 [some (.ref a), v1, v2] (.ref a :: st) A Q := c_lcl i_67_5 rfl rfl
theorem q_67_6 : XX d 67 6 [v0, v1, v2] st (mk S I L R G) Q ↔ XX d 67 8 [v0, v1, v2] (.ref (G.2.2 2) :: st) (mk S I L R G) Q := r_lds i_67_6 rfl rfl
theorem q_67_8 : XX (d + 1) 67 8 [v0, v1, v2] [.ref a1, .ref a0] (mk S I L R G) Q ↔ S a0 = some (.inr 8) ∧ XC d 74 [.ref a0, .ref a1] (mk S I L R G) (XK (d + 1) 67 8 [v0, v1, v2] [] Q) := c_callV i_67_8 rfl rfl rfl rfl (Nat.le_of_ble_eq_true rfl) (Nat.le_of_ble_eq_true rfl) rfl
theorem q_67_11 : XX d 67 11 [v0, v1, v2] (.int x :: st) A Q ↔ if x = w 0 then XX d 67 14 [v0, v1, v2] st A Q else XX d 67 21 [v0, v1, v2] st A Q := z_ne i_67_11 rfl rfl rfl
theorem q_67_14 : XX d 67 14 [some (.ref a), v1, v2] st A Q ↔ XX d 67 15 [some (.ref a), v1, v2] (.ref a :: st) A Q := c_lcl i_67_14 rfl rfl
theorem q_67_15 : XX d 67 15 [v0, v1, v2] st A Q ↔ XX d 67 16 [v0, v1, v2] (.int (w 1) :: st) A Q := c_stk i_67_15 rfl
theorem q_67_16 : XX d 67 16 [v0, v1, some (.int x)] st A Q ↔ XX d 67 17 [v0, v1, some (.int x)] (.int x :: st) A Q := c_lcl i_67_16 rfl rfl
theorem q_67_17 : XX (d + 1) 67 17 [v0, v1, v2] [.int x2, .int x1, .ref a0] (mk S I L R G) Q ↔ S a0 = some (.inr 8) ∧ XC d 79 [.ref a0, .int x1, .int x2] (mk S I L R G) (XK (d + 1) 67 17 [v0, v1, v2] [] Q) := c_callV i_67_17 rfl rfl rfl rfl (Nat.le_of_ble_eq_true rfl) (Nat.le_of_ble_eq_true rfl) rfl
theorem q_67_20 : XX d 67 20 [v0, v1, v2] [.int x] A Q ↔ (x = w 0 ∨ x = w 1) ∧ Q (.inl (some (.int x))) A := e_retZ i_67_20 rfl
theorem q_67_21 : XX d 67 21 [some (.ref a), v1, v2] st A Q ↔ XX d 67 22 [some (.ref a), v1, v2] (.ref a :: st) A Q := c_lcl i_67_21 rfl rfl
theorem q_67_22 : XX d 67 22 [v0, v1, v2] (.ref a :: st) (mk S I L R G) Q ↔ S a = some (.inr 8) ∧ XX d 67 25 [v0, v1, v2] (.int (I a 1) :: st) (mk S I L R G) Q := r_gf i_67_22 rfl (by decide) rfl
theorem q_67_25 : XX d 67 25 [v0, some (.int x), v2] st A Q ↔ XX d 67 26 [v0, some (.int x), v2] (.int x :: st) A Q := c_lcl i_67_25 rfl rfl
theorem q_67_26 : XX d 67 26 [v0, v1, v2] (.int y :: .int x :: st) A Q ↔ if x < y then XX d 67 38 [v0, v1, v2] st A Q else XX d 67 29 [v0, v1, v2] st A Q := b_lt i_67_26 rfl rfl rfl
theorem q_67_29 : XX d 67 29 [some (.ref a), v1, v2] st A Q ↔ XX d 67 30 [some (.ref a), v1, v2] (.ref a :: st) A Q := c_lcl i_67_29 rfl rfl
theorem q_67_30 : XX d 67 30 [v0, v1, v2] st A Q ↔ XX d 67 31 [v0, v1, v2] (.int (w 3) :: st) A Q := c_stk i_67_30 rfl
theorem q_67_31 : XX d 67 31 [v0, v1, some (.int x)] st A Q ↔ XX d 67 32 [v0, v1, some (.int x)] (.int x :: st) A Q := c_lcl i_67_31 rfl rfl
theorem q_67_32 : XX (d + 1) 67 32 [v0, v1, v2] [.int x2, .int x1, .ref a0] (mk S I L R G) Q ↔ S a0 = some (.inr 8) ∧ XC d 79 [.ref a0, .int x1, .int x2] (mk S I L R G) (XK (d + 1) 67 32 [v0, v1, v2] [] Q) := c_callV i_67_32 rfl rfl rfl rfl (Nat.le_of_ble_eq_true rfl) (Nat.le_of_ble_eq_true rfl) rfl
theorem q_67_35 : XX d 67 35 [v0, v1, v2] (.int x :: st) A Q ↔ if x = w 0 then XX d 67 42 [v0, v1, v2] st A Q else XX d 67 38 [v0, v1, v2] st A Q := z_eq i_67_35 rfl rfl rfl
theorem q_67_38 : XX d 67 38 [v0, v1, v2] st A Q ↔ XX d 67 39 [v0, v1, v2] (.int (w 1) :: st) A Q := c_stk i_67_38 rfl
theorem q_67_39 : XX d 67 39 [v0, v1, v2] st A Q ↔ XX d 67 43 [v0, v1, v2] st A Q := c_go i_67_39 rfl rfl
theorem q_67_42 : XX d 67 42 [v0, v1, v2] st A Q ↔ XX d 67 43 [v0, v1, v2] (.int (w 0) :: st) A Q := c_stk i_67_42 rfl
theorem q_67_43 : XX d 67 43 [v0, v1, v2] [.int x] A Q ↔ (x = w 0 ∨ x = w 1) ∧ Q (.inl (some (.int x))) A := e_retZ i_67_43 rfl
theorem q_67_e : XC d 67 [.ref a0, .int x1] A Q ↔ XX d 67 0 [some (.ref a0), some (.int x1), none] [] A Q := Iff.rfl
theorem i_68_0 : t_ins 68 0 = some (.aload_n 0) := by decide +kernel
theorem i_68_1 : t_ins 68 1 = some (.getfield 17) := by decide +kernel
theorem i_68_4 : t_ins 68 4 = some (.ifCond .lt 58) := by decide +kernel
theorem i_68_7 : t_ins 68 7 = some (.aload_n 0) := by decide +kernel
theorem i_68_8 : t_ins 68 8 = some (.getfield 17) := by decide +kernel
theorem i_68_11 : t_ins 68 11 = some (.bipush 30) := by decide +kernel
theorem i_68_13 : t_ins 68 13 = some (.if_icmp .ge 49) := by decide +kernel
theorem i_68_16 : t_ins 68 16 = some (.aload_n 0) := by decide +kernel
theorem i_68_17 : t_ins 68 17 = some (.getfield 11) := by decide +kernel
theorem i_68_20 : t_ins 68 20 = some (.aload_n 0) := by decide +kernel
theorem i_68_21 : t_ins 68 21 = some (.getfield 17) := by decide +kernel
theorem i_68_24 : t_ins 68 24 = some (.new 9) := by decide +kernel
theorem i_68_27 : t_ins 68 27 = some (.dup) := by decide +kernel
theorem i_68_28 : t_ins 68 28 = some (.aload_n 0) := by decide +kernel
theorem i_68_29 : t_ins 68 29 = some (.getfield 43) := by decide +kernel
theorem i_68_32 : t_ins 68 32 = some (.aload_n 0) := by decide +kernel
theorem i_68_33 : t_ins 68 33 = some (.getfield 47) := by decide +kernel
theorem i_68_36 : t_ins 68 36 = some (.aload_n 0) := by decide +kernel
theorem i_68_37 : t_ins 68 37 = some (.getfield 50) := by decide +kernel
theorem i_68_40 : t_ins 68 40 = some (.aload_n 0) := by decide +kernel
theorem i_68_41 : t_ins 68 41 = some (.getfield 53) := by decide +kernel
theorem i_68_44 : t_ins 68 44 = some (.aload_n 0) := by decide +kernel
theorem i_68_45 : t_ins 68 45 = some (.getfield 56) := by decide +kernel
theorem i_68_48 : t_ins 68 48 = some (.invokespecial 113) := by decide +kernel
theorem i_68_51 : t_ins 68 51 = some (.aastore) := by decide +kernel
theorem i_68_52 : t_ins 68 52 = some (.aload_n 0) := by decide +kernel
theorem i_68_53 : t_ins 68 53 = some (.dup) := by decide +kernel
theorem i_68_54 : t_ins 68 54 = some (.getfield 17) := by decide +kernel
theorem i_68_57 : t_ins 68 57 = some (.iconst 1) := by decide +kernel
theorem i_68_58 : t_ins 68 58 = some (.iadd) := by decide +kernel
theorem i_68_59 : t_ins 68 59 = some (.putfield 17) := by decide +kernel
theorem i_68_62 : t_ins 68 62 = some (.return_) := by decide +kernel
theorem q_68_0 : XX d 68 0 [some (.ref a)] st A Q ↔ XX d 68 1 [some (.ref a)] (.ref a :: st) A Q := c_lcl i_68_0 rfl rfl
theorem q_68_1 : XX d 68 1 [v0] (.ref a :: st) (mk S I L R G) Q ↔ S a = some (.inr 8) ∧ XX d 68 4 [v0] (.int (I a 1) :: st) (mk S I L R G) Q := r_gf i_68_1 rfl (by decide) rfl
theorem q_68_4 : XX d 68 4 [v0] (.int x :: st) A Q ↔ if x < w 0 then XX d 68 62 [v0] st A Q else XX d 68 7 [v0] st A Q := z_lt i_68_4 rfl rfl rfl
theorem q_68_7 : XX d 68 7 [some (.ref a)] st A Q ↔ XX d 68 8 [some (.ref a)] (.ref a :: st) A Q := c_lcl i_68_7 rfl rfl
theorem q_68_8 : XX d 68 8 [v0] (.ref a :: st) (mk S I L R G) Q ↔ S a = some (.inr 8) ∧ XX d 68 11 [v0] (.int (I a 1) :: st) (mk S I L R G) Q := r_gf i_68_8 rfl (by decide) rfl
theorem q_68_11 : XX d 68 11 [v0] st A Q ↔ XX d 68 13 [v0] (.int (w 30) :: st) A Q := c_stk i_68_11 rfl
theorem q_68_13 : XX d 68 13 [v0] (.int y :: .int x :: st) A Q ↔ if x < y then XX d 68 16 [v0] st A Q else XX d 68 62 [v0] st A Q := b_ge i_68_13 rfl rfl rfl
theorem q_68_16 : XX d 68 16 [some (.ref a)] st A Q ↔ XX d 68 17 [some (.ref a)] (.ref a :: st) A Q := c_lcl i_68_16 rfl rfl
theorem q_68_17 : XX d 68 17 [v0] (.ref a :: st) (mk S I L R G) Q ↔ S a = some (.inr 8) ∧ XX d 68 20 [v0] (.ref (a + 1) :: st) (mk S I L R G) Q := r_gf i_68_17 rfl (by decide) rfl
theorem q_68_20 : XX d 68 20 [some (.ref a)] st A Q ↔ XX d 68 21 [some (.ref a)] (.ref a :: st) A Q := c_lcl i_68_20 rfl rfl
theorem q_68_21 : XX d 68 21 [v0] (.ref a :: st) (mk S I L R G) Q ↔ S a = some (.inr 8) ∧ XX d 68 24 [v0] (.int (I a 1) :: st) (mk S I L R G) Q := r_gf i_68_21 rfl (by decide) rfl
theorem q_68_27 : XX d 68 27 [v0] (.ref a1 :: st) A Q ↔ XX d 68 28 [v0] (.ref a1 :: .ref a1 :: st) A Q := c_stk i_68_27 rfl
theorem q_68_28 : XX d 68 28 [some (.ref a)] st A Q ↔ XX d 68 29 [some (.ref a)] (.ref a :: st) A Q := c_lcl i_68_28 rfl rfl
theorem q_68_29 : XX d 68 29 [v0] (.ref a :: st) (mk S I L R G) Q ↔ S a = some (.inr 8) ∧ XX d 68 32 [v0] (.ref (a + 3) :: st) (mk S I L R G) Q := r_gf i_68_29 rfl (by decide) rfl
theorem q_68_32 : XX d 68 32 [some (.ref a)] st A Q ↔ XX d 68 33 [some (.ref a)] (.ref a :: st) A Q := c_lcl i_68_32 rfl rfl
theorem q_68_33 : XX d 68 33 [v0] (.ref a :: st) (mk S I L R G) Q ↔ S a = some (.inr 8) ∧ XX d 68 36 [v0] (.int (I a 10) :: st) (mk S I L R G) Q := r_gf i_68_33 rfl (by decide) rfl
theorem q_68_36 : XX d 68 36 [some (.ref a)] st A Q ↔ XX d 68 37 [some (.ref a)] (.ref a :: st) A Q := c_lcl i_68_36 rfl rfl
theorem q_68_37 : XX d 68 37 [v0] (.ref a :: st) (mk S I L R G) Q ↔ S a = some (.inr 8) ∧ XX d 68 40 [v0] (.ref (a + 4) :: st) (mk S I L R G) Q := r_gf i_68_37 rfl (by decide) rfl
theorem q_68_40 : XX d 68 40 [some (.ref a)] st A Q ↔ XX d 68 41 [some (.ref a)] (.ref a :: st) A Q := c_lcl i_68_40 rfl rfl
theorem q_68_41 : XX d 68 41 [v0] (.ref a :: st) (mk S I L R G) Q ↔ S a = some (.inr 8) ∧ XX d 68 44 [v0] (.ref (a + 5) :: st) (mk S I L R G) Q := r_gf i_68_41 rfl (by decide) rfl
theorem q_68_44 : XX d 68 44 [some (.ref a)] st A Q ↔ XX d 68 45 [some (.ref a)] (.ref a :: st) A Q := c_lcl i_68_44 rfl rfl
theorem q_68_45 : XX d 68 45 [v0] (.ref a :: st) (mk S I L R G) Q ↔ S a = some (.inr 8) ∧ XX d 68 48 [v0] (.ref (a + 6) :: st) (mk S I L R G) Q := r_gf i_68_45 rfl (by decide) rfl
theorem q_68_51 : XX d 68 51 [v0] (.ref b :: .int x :: .ref a :: st) (mk S I L R G) Q ↔ aqP (S a) S (some b) x ∧ XX d 68 52 [v0] st (mk S I L (wr R a (up (R a) (ix x) (some b))) G) Q := r_aqs i_68_51
theorem q_68_51o : XX d 68 51 [v0] (va_rf o :: .int x :: .ref a :: st) (mk S I L R G) Q ↔ aqP (S a) S o x ∧ XX d 68 52 [v0] st (mk S I L (wr R a (up (R a) (ix x) o)) G) Q := r_aqo i_68_51
theorem q_68_52 : XX d 68 52 [some (.ref a)] st A Q ↔ XX d 68 53 [some (.ref a)] (.ref a :: st) A Q := c_lcl i_68_52 rfl rfl
theorem q_68_53 : XX d 68 53 [v0] (.ref a1 :: st) A Q ↔ XX d 68 54 [v0] (.ref a1 :: .ref a1 :: st) A Q := c_stk i_68_53 rfl
theorem q_68_54 : XX d 68 54 [v0] (.ref a :: st) (mk S I L R G) Q ↔ S a = some (.inr 8) ∧ XX d 68 57 [v0] (.int (I a 1) :: st) (mk S I L R G) Q := r_gf i_68_54 rfl (by decide) rfl
theorem q_68_57 : XX d 68 57 [v0] st A Q ↔ XX d 68 58 [v0] (.int (w 1) :: st) A Q := c_stk i_68_57 rfl
theorem q_68_58 : XX d 68 58 [v0] (.int y :: .int x :: st) A Q ↔ XX d 68 59 [v0] (.int (x + y) :: st) A Q := c_stk i_68_58 rfl
theorem q_68_59 : XX d 68 59 [v0] (.int x :: .ref a :: st) (mk S I L R G) Q ↔ S a = some (.inr 8) ∧ XX d 68 62 [v0] st (mk S (wr I a (up (I a) 1 x)) L R G) Q := r_pf i_68_59 rfl (by decide) rfl rfl rfl
theorem q_68_62 : XX d 68 62 [v0] [] A Q ↔ Q (.inl none) A := e_retN i_68_62 rfl
theorem q_68_e : XC d 68 [.ref a0] A Q ↔ XX d 68 0 [some (.ref a0)] [] A Q := Iff.rfl
theorem i_69_0 : t_ins 69 0 = some (.aload_n 0) := by decide +kernel
theorem i_69_1 : t_ins 69 1 = some (.iconst 0) := by decide +kernel
theorem i_69_2 : t_ins 69 2 = some (.ldc 116) := by decide +kernel
theorem i_69_4 : t_ins 69 4 = some (.invokevirtual 104) := by decide +kernel
theorem i_69_7 : t_ins 69 7 = some (.ifCond .ne 5) := by decide +kernel
theorem i_69_10 : t_ins 69 10 = some (.iconst 0) := by decide +kernel
theorem i_69_11 : t_ins 69 11 = some (.ireturn) := by decide +kernel
theorem i_69_12 : t_ins 69 12 = some (.aload_n 0) := by decide +kernel
theorem i_69_13 : t_ins 69 13 = some (.getfield 43) := by decide +kernel
theorem i_69_16 : t_ins 69 16 = some (.iconst 0) := by decide +kernel
theorem i_69_17 : t_ins 69 17 = some (.aload_n 0) := by decide +kernel
theorem i_69_18 : t_ins 69 18 = some (.getfield 40) := by decide +kernel
theorem i_69_21 : t_ins 69 21 = some (.iastore) := by decide +kernel
theorem i_69_22 : t_ins 69 22 = some (.aload_n 0) := by decide +kernel
theorem i_69_23 : t_ins 69 23 = some (.ldc 117) := by decide +kernel
theorem i_69_25 : t_ins 69 25 = some (.invokevirtual 96) := by decide +kernel
theorem i_69_28 : t_ins 69 28 = some (.ifCond .eq 20) := by decide +kernel
theorem i_69_31 : t_ins 69 31 = some (.aload_n 0) := by decide +kernel
theorem i_69_32 : t_ins 69 32 = some (.aload_n 0) := by decide +kernel
theorem i_69_33 : t_ins 69 33 = some (.getfield 43) := by decide +kernel
theorem i_69_36 : t_ins 69 36 = some (.iconst 0) := by decide +kernel
theorem i_69_37 : t_ins 69 37 = some (.iaload) := by decide +kernel
theorem i_69_38 : t_ins 69 38 = some (.ldc 116) := by decide +kernel
theorem i_69_40 : t_ins 69 40 = some (.invokevirtual 104) := by decide +kernel
theorem i_69_43 : t_ins 69 43 = some (.ifCond .ne 5) := by decide +kernel
theorem i_69_46 : t_ins 69 46 = some (.iconst 0) := by decide +kernel
theorem i_69_47 : t_ins 69 47 = some (.ireturn) := by decide +kernel
theorem i_69_48 : t_ins 69 48 = some (.aload_n 0) := by decide +kernel
theorem i_69_49 : t_ins 69 49 = some (.getfield 43) := by decide +kernel
theorem i_69_52 : t_ins 69 52 = some (.iconst 1) := by decide +kernel
theorem i_69_53 : t_ins 69 53 = some (.aload_n 0) := by decide +kernel
theorem i_69_54 : t_ins 69 54 = some (.getfield 40) := by decide +kernel
theorem i_69_57 : t_ins 69 57 = some (.iastore) := by decide +kernel
theorem i_69_58 : t_ins 69 58 = some (.aload_n 0) := by decide +kernel
theorem i_69_59 : t_ins 69 59 = some (.getfield 43) := by decide +kernel
theorem i_69_62 : t_ins 69 62 = some (.iconst 2) := by decide +kernel
theorem i_69_63 : t_ins 69 63 = some (.iconst 1) := by decide +kernel
theorem i_69_64 : t_ins 69 64 = some (.iastore) := by decide +kernel
theorem i_69_65 : t_ins 69 65 = some (.aload_n 0) := by decide +kernel
theorem i_69_66 : t_ins 69 66 = some (.getfield 43) := by decide +kernel
theorem i_69_69 : t_ins 69 69 = some (.iconst 3) := by decide +kernel
theorem i_69_70 : t_ins 69 70 = some (.iconst 0) := by decide +kernel
theorem i_69_71 : t_ins 69 71 = some (.iastore) := by decide +kernel
theorem i_69_72 : t_ins 69 72 = some (.aload_n 0) := by decide +kernel
theorem i_69_73 : t_ins 69 73 = some (.ldc 119) := by decide +kernel
theorem i_69_75 : t_ins 69 75 = some (.invokevirtual 96) := by decide +kernel
theorem i_69_78 : t_ins 69 78 = some (.ifCond .eq 54) := by decide +kernel
theorem i_69_81 : t_ins 69 81 = some (.aload_n 0) := by decide +kernel
theorem i_69_82 : t_ins 69 82 = some (.iconst 1) := by decide +kernel
theorem i_69_83 : t_ins 69 83 = some (.sipush 9999) := by decide +kernel
theorem i_69_86 : t_ins 69 86 = some (.invokevirtual 104) := by decide +kernel
theorem i_69_89 : t_ins 69 89 = some (.ifCond .ne 5) := by decide +kernel
theorem i_69_92 : t_ins 69 92 = some (.iconst 0) := by decide +kernel
theorem i_69_93 : t_ins 69 93 = some (.ireturn) := by decide +kernel
theorem i_69_94 : t_ins 69 94 = some (.aload_n 0) := by decide +kernel
theorem i_69_95 : t_ins 69 95 = some (.getfield 43) := by decide +kernel
theorem i_69_98 : t_ins 69 98 = some (.iconst 2) := by decide +kernel
theorem i_69_99 : t_ins 69 99 = some (.aload_n 0) := by decide +kernel
theorem i_69_100 : t_ins 69 100 = some (.getfield 40) := by decide +kernel
theorem i_69_103 : t_ins 69 103 = some (.iastore) := by decide +kernel
theorem i_69_104 : t_ins 69 104 = some (.aload_n 0) := by decide +kernel
theorem i_69_105 : t_ins 69 105 = some (.iconst 0) := by decide +kernel
theorem i_69_106 : t_ins 69 106 = some (.aload_n 0) := by decide +kernel
theorem i_69_107 : t_ins 69 107 = some (.getfield 43) := by decide +kernel
theorem i_69_110 : t_ins 69 110 = some (.iconst 2) := by decide +kernel
theorem i_69_111 : t_ins 69 111 = some (.iaload) := by decide +kernel
theorem i_69_112 : t_ins 69 112 = some (.iconst 1) := by decide +kernel
theorem i_69_113 : t_ins 69 113 = some (.isub) := by decide +kernel
theorem i_69_114 : t_ins 69 114 = some (.invokevirtual 104) := by decide +kernel
theorem i_69_117 : t_ins 69 117 = some (.ifCond .ne 5) := by decide +kernel
theorem i_69_120 : t_ins 69 120 = some (.iconst 0) := by decide +kernel
theorem i_69_121 : t_ins 69 121 = some (.ireturn) := by decide +kernel
theorem i_69_122 : t_ins 69 122 = some (.aload_n 0) := by decide +kernel
theorem i_69_123 : t_ins 69 123 = some (.getfield 43) := by decide +kernel
theorem i_69_126 : t_ins 69 126 = some (.iconst 3) := by decide +kernel
theorem i_69_127 : t_ins 69 127 = some (.aload_n 0) := by decide +kernel
theorem i_69_128 : t_ins 69 128 = some (.getfield 40) := by decide +kernel
theorem i_69_131 : t_ins 69 131 = some (.iastore) := by decide +kernel
theorem i_69_132 : t_ins 69 132 = some (.aload_n 0) := by decide +kernel
theorem i_69_133 : t_ins 69 133 = some (.ldc 121) := by decide +kernel
theorem i_69_135 : t_ins 69 135 = some (.invokevirtual 96) := by decide +kernel
theorem i_69_138 : t_ins 69 138 = some (.ifCond .ne 15) := by decide +kernel
theorem i_69_141 : t_ins 69 141 = some (.aload_n 0) := by decide +kernel
theorem i_69_142 : t_ins 69 142 = some (.iconst 1) := by decide +kernel
theorem i_69_143 : t_ins 69 143 = some (.aload_n 0) := by decide +kernel
theorem i_69_144 : t_ins 69 144 = some (.getfield 37) := by decide +kernel
theorem i_69_147 : t_ins 69 147 = some (.invokevirtual 100) := by decide +kernel
theorem i_69_150 : t_ins 69 150 = some (.ifCond .eq 7) := by decide +kernel
theorem i_69_153 : t_ins 69 153 = some (.iconst 1) := by decide +kernel
theorem i_69_154 : t_ins 69 154 = some (.goto 4) := by decide +kernel
theorem i_69_157 : t_ins 69 157 = some (.iconst 0) := by decide +kernel
theorem i_69_158 : t_ins 69 158 = some (.ireturn) := by decide +kernel
theorem q_69_0 : XX d 69 0 [some (.ref a)] st A Q ↔ XX d 69 1 [some (.ref a)] (.ref a :: st) A Q := c_lcl i_69_0 rfl rfl
theorem q_69_1 : XX d 69 1 [v0] st A Q ↔ XX d 69 2 [v0] (.int (w 0) :: st) A Q := c_stk i_69_1 rfl
theorem q_69_2 : XX d 69 2 [v0] st A Q ↔ XX d 69 4 [v0] (.int (w 999999999) :: st) A Q := r_ldc i_69_2 rfl
theorem q_69_4 : XX (d + 1) 69 4 [v0] [.int x2, .int x1, .ref a0] (mk S I L R G) Q ↔ S a0 = some (.inr 8) ∧ XC d 73 [.ref a0, .int x1, .int x2] (mk S I L R G) (XK (d + 1) 69 4 [v0] [] Q) := c_callV i_69_4 rfl rfl rfl rfl (Nat.le_of_ble_eq_true rfl) (Nat.le_of_ble_eq_true rfl) rfl
theorem q_69_7 : XX d 69 7 [v0] (.int x :: st) A Q ↔ if x = w 0 then XX d 69 10 [v0] st A Q else XX d 69 12 [v0] st A Q := z_ne i_69_7 rfl rfl rfl
theorem q_69_10 : XX d 69 10 [v0] st A Q ↔ XX d 69 11 [v0] (.int (w 0) :: st) A Q := c_stk i_69_10 rfl
theorem q_69_11 : XX d 69 11 [v0] [.int x] A Q ↔ (x = w 0 ∨ x = w 1) ∧ Q (.inl (some (.int x))) A := e_retZ i_69_11 rfl
theorem q_69_12 : XX d 69 12 [some (.ref a)] st A Q ↔ XX d 69 13 [some (.ref a)] (.ref a :: st) A Q := c_lcl i_69_12 rfl rfl
theorem q_69_13 : XX d 69 13 [v0] (.ref a :: st) (mk S I L R G) Q ↔ S a = some (.inr 8) ∧ XX d 69 16 [v0] (.ref (a + 3) :: st) (mk S I L R G) Q := r_gf i_69_13 rfl (by decide) rfl
theorem q_69_16 : XX d 69 16 [v0] st A Q ↔ XX d 69 17 [v0] (.int (w 0) :: st) A Q := c_stk i_69_16 rfl
theorem q_69_17 : XX d 69 17 [some (.ref a)] st A Q ↔ XX d 69 18 [some (.ref a)] (.ref a :: st) A Q := c_lcl i_69_17 rfl rfl
theorem q_69_18 : XX d 69 18 [v0] (.ref a :: st) (mk S I L R G) Q ↔ S a = some (.inr 8) ∧ XX d 69 21 [v0] (.int (I a 8) :: st) (mk S I L R G) Q := r_gf i_69_18 rfl (by decide) rfl
theorem q_69_21 : XX d 69 21 [v0] (.int y :: .int x :: .ref a :: st) (mk S I L R G) Q ↔ inA (S a) ok_0 x ∧ XX d 69 22 [v0] st (mk S (wr I a (up (I a) (ix x) y)) L R G) Q := r_ias i_69_21
theorem q_69_22 : XX d 69 22 [some (.ref a)] st A Q ↔ XX d 69 23 [some (.ref a)] (.ref a :: st) A Q := c_lcl i_69_22 rfl rfl
theorem q_69_23 : XX d 69 23 [v0] st (mk S I L R G) Q ↔ XX d 69 25 [v0] (.ref (G.2.2 3) :: st) (mk S I L R G) Q := r_lds i_69_23 rfl rfl
theorem q_69_25 : XX (d + 1) 69 25 [v0] [.ref a1, .ref a0] (mk S I L R G) Q ↔ S a0 = some (.inr 8) ∧ XC d 74 [.ref a0, .ref a1] (mk S I L R G) (XK (d + 1) 69 25 [v0] [] Q) := c_callV i_69_25 rfl rfl rfl rfl (Nat.le_of_ble_eq_true rfl) (Nat.le_of_ble_eq_true rfl) rfl
theorem q_69_28 : XX d 69 28 [v0] (.int x :: st) A Q ↔ if x = w 0 then XX d 69 48 [v0] st A Q else XX d 69 31 [v0] st A Q := z_eq i_69_28 rfl rfl rfl
theorem q_69_31 : XX d 69 31 [some (.ref a)] st A Q ↔ XX d 69 32 [some (.ref a)] (.ref a :: st) A Q := c_lcl i_69_31 rfl rfl
theorem q_69_32 : XX d 69 32 [some (.ref a)] st A Q ↔ XX d 69 33 [some (.ref a)] (.ref a :: st) A Q := c_lcl i_69_32 rfl rfl
theorem q_69_33 : XX d 69 33 [v0] (.ref a :: st) (mk S I L R G) Q ↔ S a = some (.inr 8) ∧ XX d 69 36 [v0] (.ref (a + 3) :: st) (mk S I L R G) Q := r_gf i_69_33 rfl (by decide) rfl
theorem q_69_36 : XX d 69 36 [v0] st A Q ↔ XX d 69 37 [v0] (.int (w 0) :: st) A Q := c_stk i_69_36 rfl
theorem q_69_37 : XX d 69 37 [v0] (.int x :: .ref a :: st) (mk S I L R G) Q ↔ inA (S a) ok_i x ∧ XX d 69 38 [v0] (.int (I a (ix x)) :: st) (mk S I L R G) Q := r_ia i_69_37
theorem q_69_38 : XX d 69 38 [v0] st A Q ↔ XX d 69 40 [v0] (.int (w 999999999) :: st) A Q := r_ldc i_69_38 rfl
theorem q_69_40 : XX (d + 1) 69 40 [v0] [.int x2, .int x1, .ref a0] (mk S I L R G) Q ↔ S a0 = some (.inr 8) ∧ XC d 73 [.ref a0, .int x1, .int x2] (mk S I L R G) (XK (d + 1) 69 40 [v0] [] Q) := c_callV i_69_40 rfl rfl rfl rfl (Nat.le_of_ble_eq_true rfl) (Nat.le_of_ble_eq_true rfl) rfl
theorem q_69_43 : XX d 69 43 [v0] (.int x :: st) A Q ↔ if x = w 0 then XX d 69 46 [v0] st A Q else XX d 69 48 [v0] st A Q := z_ne i_69_43 rfl rfl rfl
theorem q_69_46 : XX d 69 46 [v0] st A Q ↔ XX d 69 47 [v0] (.int (w 0) :: st) A Q := c_stk i_69_46 rfl
theorem q_69_47 : XX d 69 47 [v0] [.int x] A Q ↔ (x = w 0 ∨ x = w 1) ∧ Q (.inl (some (.int x))) A := e_retZ i_69_47 rfl
theorem q_69_48 : XX d 69 48 [some (.ref a)] st A Q ↔ XX d 69 49 [some (.ref a)] (.ref a :: st) A Q := c_lcl i_69_48 rfl rfl
theorem q_69_49 : XX d 69 49 [v0] (.ref a :: st) (mk S I L R G) Q ↔ S a = some (.inr 8) ∧ XX d 69 52 [v0] (.ref (a + 3) :: st) (mk S I L R G) Q := r_gf i_69_49 rfl (by decide) rfl
theorem q_69_52 : XX d 69 52 [v0] st A Q ↔ XX d 69 53 [v0] (.int (w 1) :: st) A Q := c_stk i_69_52 rfl
theorem q_69_53 : XX d 69 53 [some (.ref a)] st A Q ↔ XX d 69 54 [some (.ref a)] (.ref a :: st) A Q := c_lcl i_69_53 rfl rfl
theorem q_69_54 : XX d 69 54 [v0] (.ref a :: st) (mk S I L R G) Q ↔ S a = some (.inr 8) ∧ XX d 69 57 [v0] (.int (I a 8) :: st) (mk S I L R G) Q := r_gf i_69_54 rfl (by decide) rfl
theorem q_69_57 : XX d 69 57 [v0] (.int y :: .int x :: .ref a :: st) (mk S I L R G) Q ↔ inA (S a) ok_0 x ∧ XX d 69 58 [v0] st (mk S (wr I a (up (I a) (ix x) y)) L R G) Q := r_ias i_69_57
theorem q_69_58 : XX d 69 58 [some (.ref a)] st A Q ↔ XX d 69 59 [some (.ref a)] (.ref a :: st) A Q := c_lcl i_69_58 rfl rfl
theorem q_69_59 : XX d 69 59 [v0] (.ref a :: st) (mk S I L R G) Q ↔ S a = some (.inr 8) ∧ XX d 69 62 [v0] (.ref (a + 3) :: st) (mk S I L R G) Q := r_gf i_69_59 rfl (by decide) rfl
theorem q_69_62 : XX d 69 62 [v0] st A Q ↔ XX d 69 63 [v0] (.int (w 2) :: st) A Q := c_stk i_69_62 rfl
theorem q_69_63 : XX d 69 63 [v0] st A Q ↔ XX d 69 64 [v0] (.int (w 1) :: st) A Q := c_stk i_69_63 rfl
theorem q_69_64 : XX d 69 64 [v0] (.int y :: .int x :: .ref a :: st) (mk S I L R G) Q ↔ inA (S a) ok_0 x ∧ XX d 69 65 [v0] st (mk S (wr I a (up (I a) (ix x) y)) L R G) Q := r_ias i_69_64
theorem q_69_65 : XX d 69 65 [some (.ref a)] st A Q ↔ XX d 69 66 [some (.ref a)] (.ref a :: st) A Q := c_lcl i_69_65 rfl rfl
theorem q_69_66 : XX d 69 66 [v0] (.ref a :: st) (mk S I L R G) Q ↔ S a = some (.inr 8) ∧ XX d 69 69 [v0] (.ref (a + 3) :: st) (mk S I L R G) Q := r_gf i_69_66 rfl (by decide) rfl
theorem q_69_69 : XX d 69 69 [v0] st A Q ↔ XX d 69 70 [v0] (.int (w 3) :: st) A Q := c_stk i_69_69 rfl
theorem q_69_70 : XX d 69 70 [v0] st A Q ↔ XX d 69 71 [v0] (.int (w 0) :: st) A Q := c_stk i_69_70 rfl
theorem q_69_71 : XX d 69 71 [v0] (.int y :: .int x :: .ref a :: st) (mk S I L R G) Q ↔ inA (S a) ok_0 x ∧ XX d 69 72 [v0] st (mk S (wr I a (up (I a) (ix x) y)) L R G) Q := r_ias i_69_71
theorem q_69_72 : XX d 69 72 [some (.ref a)] st A Q ↔ XX d 69 73 [some (.ref a)] (.ref a :: st) A Q := c_lcl i_69_72 rfl rfl
theorem q_69_73 : XX d 69 73 [v0] st (mk S I L R G) Q ↔ XX d 69 75 [v0] (.ref (G.2.2 4) :: st) (mk S I L R G) Q := r_lds i_69_73 rfl rfl
theorem q_69_75 : XX (d + 1) 69 75 [v0] [.ref a1, .ref a0] (mk S I L R G) Q ↔ S a0 = some (.inr 8) ∧ XC d 74 [.ref a0, .ref a1] (mk S I L R G) (XK (d + 1) 69 75 [v0] [] Q) := c_callV i_69_75 rfl rfl rfl rfl (Nat.le_of_ble_eq_true rfl) (Nat.le_of_ble_eq_true rfl) rfl
theorem q_69_78 : XX d 69 78 [v0] (.int x :: st) A Q ↔ if x = w 0 then XX d 69 132 [v0] st A Q else XX d 69 81 [v0] st A Q := z_eq i_69_78 rfl rfl rfl
theorem q_69_81 : XX d 69 81 [some (.ref a)] st A Q ↔ XX d 69 82 [some (.ref a)] (.ref a :: st) A Q := c_lcl i_69_81 rfl rfl
theorem q_69_82 : XX d 69 82 [v0] st A Q ↔ XX d 69 83 [v0] (.int (w 1) :: st) A Q := c_stk i_69_82 rfl
theorem q_69_83 : XX d 69 83 [v0] st A Q ↔ XX d 69 86 [v0] (.int (w 9999) :: st) A Q := c_stk i_69_83 rfl
theorem q_69_86 : XX (d + 1) 69 86 [v0] [.int x2, .int x1, .ref a0] (mk S I L R G) Q ↔ S a0 = some (.inr 8) ∧ XC d 73 [.ref a0, .int x1, .int x2] (mk S I L R G) (XK (d + 1) 69 86 [v0] [] Q) := c_callV i_69_86 rfl rfl rfl rfl (Nat.le_of_ble_eq_true rfl) (Nat.le_of_ble_eq_true rfl) rfl
theorem q_69_89 : XX d 69 89 [v0] (.int x :: st) A Q ↔ if x = w 0 then XX d 69 92 [v0] st A Q else XX d 69 94 [v0] st A Q := z_ne i_69_89 rfl rfl rfl
theorem q_69_92 : XX d 69 92 [v0] st A Q ↔ XX d 69 93 [v0] (.int (w 0) :: st) A Q := c_stk i_69_92 rfl
theorem q_69_93 : XX d 69 93 [v0] [.int x] A Q ↔ (x = w 0 ∨ x = w 1) ∧ Q (.inl (some (.int x))) A := e_retZ i_69_93 rfl
theorem q_69_94 : XX d 69 94 [some (.ref a)] st A Q ↔ XX d 69 95 [some (.ref a)] (.ref a :: st) A Q := c_lcl i_69_94 rfl rfl
theorem q_69_95 : XX d 69 95 [v0] (.ref a :: st) (mk S I L R G) Q ↔ S a = some (.inr 8) ∧ XX d 69 98 [v0] (.ref (a + 3) :: st) (mk S I L R G) Q := r_gf i_69_95 rfl (by decide) rfl
theorem q_69_98 : XX d 69 98 [v0] st A Q ↔ XX d 69 99 [v0] (.int (w 2) :: st) A Q := c_stk i_69_98 rfl
theorem q_69_99 : XX d 69 99 [some (.ref a)] st A Q ↔ XX d 69 100 [some (.ref a)] (.ref a :: st) A Q := c_lcl i_69_99 rfl rfl
theorem q_69_100 : XX d 69 100 [v0] (.ref a :: st) (mk S I L R G) Q ↔ S a = some (.inr 8) ∧ XX d 69 103 [v0] (.int (I a 8) :: st) (mk S I L R G) Q := r_gf i_69_100 rfl (by decide) rfl
theorem q_69_103 : XX d 69 103 [v0] (.int y :: .int x :: .ref a :: st) (mk S I L R G) Q ↔ inA (S a) ok_0 x ∧ XX d 69 104 [v0] st (mk S (wr I a (up (I a) (ix x) y)) L R G) Q := r_ias i_69_103
theorem q_69_104 : XX d 69 104 [some (.ref a)] st A Q ↔ XX d 69 105 [some (.ref a)] (.ref a :: st) A Q := c_lcl i_69_104 rfl rfl
theorem q_69_105 : XX d 69 105 [v0] st A Q ↔ XX d 69 106 [v0] (.int (w 0) :: st) A Q := c_stk i_69_105 rfl
theorem q_69_106 : XX d 69 106 [some (.ref a)] st A Q ↔ XX d 69 107 [some (.ref a)] (.ref a :: st) A Q := c_lcl i_69_106 rfl rfl
theorem q_69_107 : XX d 69 107 [v0] (.ref a :: st) (mk S I L R G) Q ↔ S a = some (.inr 8) ∧ XX d 69 110 [v0] (.ref (a + 3) :: st) (mk S I L R G) Q := r_gf i_69_107 rfl (by decide) rfl
theorem q_69_110 : XX d 69 110 [v0] st A Q ↔ XX d 69 111 [v0] (.int (w 2) :: st) A Q := c_stk i_69_110 rfl
theorem q_69_111 : XX d 69 111 [v0] (.int x :: .ref a :: st) (mk S I L R G) Q ↔ inA (S a) ok_i x ∧ XX d 69 112 [v0] (.int (I a (ix x)) :: st) (mk S I L R G) Q := r_ia i_69_111
theorem q_69_112 : XX d 69 112 [v0] st A Q ↔ XX d 69 113 [v0] (.int (w 1) :: st) A Q := c_stk i_69_112 rfl
theorem q_69_113 : XX d 69 113 [v0] (.int y :: .int x :: st) A Q ↔ XX d 69 114 [v0] (.int (x - y) :: st) A Q := c_stk i_69_113 rfl
theorem q_69_114 : XX (d + 1) 69 114 [v0] [.int x2, .int x1, .ref a0] (mk S I L R G) Q ↔ S a0 = some (.inr 8) ∧ XC d 73 [.ref a0, .int x1, .int x2] (mk S I L R G) (XK (d + 1) 69 114 [v0] [] Q) := c_callV i_69_114 rfl rfl rfl rfl (Nat.le_of_ble_eq_true rfl) (Nat.le_of_ble_eq_true rfl) rfl
theorem q_69_117 : XX d 69 117 [v0] (.int x :: st) A Q ↔ if x = w 0 then XX d 69 120 [v0] st A Q else XX d 69 122 [v0] st A Q := z_ne i_69_117 rfl rfl rfl
theorem q_69_120 : XX d 69 120 [v0] st A Q ↔ XX d 69 121 [v0] (.int (w 0) :: st) A Q := c_stk i_69_120 rfl
theorem q_69_121 : XX d 69 121 [v0] [.int x] A Q ↔ (x = w 0 ∨ x = w 1) ∧ Q (.inl (some (.int x))) A := e_retZ i_69_121 rfl
theorem q_69_122 : XX d 69 122 [some (.ref a)] st A Q ↔ XX d 69 123 [some (.ref a)] (.ref a :: st) A Q := c_lcl i_69_122 rfl rfl
theorem q_69_123 : XX d 69 123 [v0] (.ref a :: st) (mk S I L R G) Q ↔ S a = some (.inr 8) ∧ XX d 69 126 [v0] (.ref (a + 3) :: st) (mk S I L R G) Q := r_gf i_69_123 rfl (by decide) rfl
theorem q_69_126 : XX d 69 126 [v0] st A Q ↔ XX d 69 127 [v0] (.int (w 3) :: st) A Q := c_stk i_69_126 rfl
theorem q_69_127 : XX d 69 127 [some (.ref a)] st A Q ↔ XX d 69 128 [some (.ref a)] (.ref a :: st) A Q := c_lcl i_69_127 rfl rfl
theorem q_69_128 : XX d 69 128 [v0] (.ref a :: st) (mk S I L R G) Q ↔ S a = some (.inr 8) ∧ XX d 69 131 [v0] (.int (I a 8) :: st) (mk S I L R G) Q := r_gf i_69_128 rfl (by decide) rfl
theorem q_69_131 : XX d 69 131 [v0] (.int y :: .int x :: .ref a :: st) (mk S I L R G) Q ↔ inA (S a) ok_0 x ∧ XX d 69 132 [v0] st (mk S (wr I a (up (I a) (ix x) y)) L R G) Q := r_ias i_69_131
theorem q_69_132 : XX d 69 132 [some (.ref a)] st A Q ↔ XX d 69 133 [some (.ref a)] (.ref a :: st) A Q := c_lcl i_69_132 rfl rfl
theorem q_69_133 : XX d 69 133 [v0] st (mk S I L R G) Q ↔ XX d 69 135 [v0] (.ref (G.2.2 5) :: st) (mk S I L R G) Q := r_lds i_69_133 rfl rfl
theorem q_69_135 : XX (d + 1) 69 135 [v0] [.ref a1, .ref a0] (mk S I L R G) Q ↔ S a0 = some (.inr 8) ∧ XC d 74 [.ref a0, .ref a1] (mk S I L R G) (XK (d + 1) 69 135 [v0] [] Q) := c_callV i_69_135 rfl rfl rfl rfl (Nat.le_of_ble_eq_true rfl) (Nat.le_of_ble_eq_true rfl) rfl
theorem q_69_138 : XX d 69 138 [v0] (.int x :: st) A Q ↔ if x = w 0 then XX d 69 141 [v0] st A Q else XX d 69 153 [v0] st A Q := z_ne i_69_138 rfl rfl rfl
theorem q_69_141 : XX d 69 141 [some (.ref a)] st A Q ↔ XX d 69 142 [some (.ref a)] (.ref a :: st) A Q := c_lcl i_69_141 rfl rfl
theorem q_69_142 : XX d 69 142 [v0] st A Q ↔ XX d 69 143 [v0] (.int (w 1) :: st) A Q := c_stk i_69_142 rfl
theorem q_69_143 : XX d 69 143 [some (.ref a)] st A Q ↔ XX d 69 144 [some (.ref a)] (.ref a :: st) A Q := c_lcl i_69_143 rfl rfl
theorem q_69_144 : XX d 69 144 [v0] (.ref a :: st) (mk S I L R G) Q ↔ S a = some (.inr 8) ∧ XX d 69 147 [v0] (.int (I a 7) :: st) (mk S I L R G) Q := r_gf i_69_144 rfl (by decide) rfl
theorem q_69_147 : XX (d + 1) 69 147 [v0] [.int x2, .int x1, .ref a0] (mk S I L R G) Q ↔ S a0 = some (.inr 8) ∧ XC d 79 [.ref a0, .int x1, .int x2] (mk S I L R G) (XK (d + 1) 69 147 [v0] [] Q) := c_callV i_69_147 rfl rfl rfl rfl (Nat.le_of_ble_eq_true rfl) (Nat.le_of_ble_eq_true rfl) rfl
theorem q_69_150 : XX d 69 150 [v0] (.int x :: st) A Q ↔ if x = w 0 then XX d 69 157 [v0] st A Q else XX d 69 153 [v0] st A Q := z_eq i_69_150 rfl rfl rfl
theorem q_69_153 : XX d 69 153 [v0] st A Q ↔ XX d 69 154 [v0] (.int (w 1) :: st) A Q := c_stk i_69_153 rfl
theorem q_69_154 : XX d 69 154 [v0] st A Q ↔ XX d 69 158 [v0] st A Q := c_go i_69_154 rfl rfl
theorem q_69_157 : XX d 69 157 [v0] st A Q ↔ XX d 69 158 [v0] (.int (w 0) :: st) A Q := c_stk i_69_157 rfl
theorem q_69_158 : XX d 69 158 [v0] [.int x] A Q ↔ (x = w 0 ∨ x = w 1) ∧ Q (.inl (some (.int x))) A := e_retZ i_69_158 rfl
theorem q_69_e : XC d 69 [.ref a0] A Q ↔ XX d 69 0 [some (.ref a0)] [] A Q := Iff.rfl
theorem i_70_0 : t_ins 70 0 = some (.aload_n 0) := by decide +kernel
theorem i_70_1 : t_ins 70 1 = some (.iconst 0) := by decide +kernel
theorem i_70_2 : t_ins 70 2 = some (.putfield 47) := by decide +kernel
theorem i_70_5 : t_ins 70 5 = some (.iconst (-1)) := by decide +kernel
theorem i_70_6 : t_ins 70 6 = some (.istore_n 1) := by decide +kernel
theorem i_70_7 : t_ins 70 7 = some (.iconst 0) := by decide +kernel
theorem i_70_8 : t_ins 70 8 = some (.istore_n 2) := by decide +kernel
theorem i_70_9 : t_ins 70 9 = some (.iload_n 2) := by decide +kernel
theorem i_70_10 : t_ins 70 10 = some (.bipush 6) := by decide +kernel
theorem i_70_12 : t_ins 70 12 = some (.if_icmp .gt 149) := by decide +kernel
theorem i_70_15 : t_ins 70 15 = some (.aload_n 0) := by decide +kernel
theorem i_70_16 : t_ins 70 16 = some (.invokevirtual 79) := by decide +kernel
theorem i_70_19 : t_ins 70 19 = some (.aload_n 0) := by decide +kernel
theorem i_70_20 : t_ins 70 20 = some (.getfield 37) := by decide +kernel
theorem i_70_23 : t_ins 70 23 = some (.istore_n 3) := by decide +kernel
theorem i_70_24 : t_ins 70 24 = some (.aload_n 0) := by decide +kernel
theorem i_70_25 : t_ins 70 25 = some (.invokevirtual 107) := by decide +kernel
theorem i_70_28 : t_ins 70 28 = some (.bipush 59) := by decide +kernel
theorem i_70_30 : t_ins 70 30 = some (.if_icmp .ne 40) := by decide +kernel
theorem i_70_33 : t_ins 70 33 = some (.aload_n 0) := by decide +kernel
theorem i_70_34 : t_ins 70 34 = some (.getfield 47) := by decide +kernel
theorem i_70_37 : t_ins 70 37 = some (.ifCond .le 33) := by decide +kernel
theorem i_70_40 : t_ins 70 40 = some (.aload_n 0) := by decide +kernel
theorem i_70_41 : t_ins 70 41 = some (.dup) := by decide +kernel
theorem i_70_42 : t_ins 70 42 = some (.getfield 37) := by decide +kernel
theorem i_70_45 : t_ins 70 45 = some (.iconst 1) := by decide +kernel
theorem i_70_46 : t_ins 70 46 = some (.iadd) := by decide +kernel
theorem i_70_47 : t_ins 70 47 = some (.putfield 37) := by decide +kernel
theorem i_70_50 : t_ins 70 50 = some (.iload_n 1) := by decide +kernel
theorem i_70_51 : t_ins 70 51 = some (.iconst (-1)) := by decide +kernel
theorem i_70_52 : t_ins 70 52 = some (.if_icmp .eq 12) := by decide +kernel
theorem i_70_55 : t_ins 70 55 = some (.aload_n 0) := by decide +kernel
theorem i_70_56 : t_ins 70 56 = some (.iconst 4) := by decide +kernel
theorem i_70_57 : t_ins 70 57 = some (.iload_n 1) := by decide +kernel
theorem i_70_58 : t_ins 70 58 = some (.invokevirtual 100) := by decide +kernel
theorem i_70_61 : t_ins 70 61 = some (.ifCond .eq 7) := by decide +kernel
theorem i_70_64 : t_ins 70 64 = some (.iconst 1) := by decide +kernel
theorem i_70_65 : t_ins 70 65 = some (.goto 4) := by decide +kernel
theorem i_70_68 : t_ins 70 68 = some (.iconst 0) := by decide +kernel
theorem i_70_69 : t_ins 70 69 = some (.ireturn) := by decide +kernel
theorem i_70_70 : t_ins 70 70 = some (.aload_n 0) := by decide +kernel
theorem i_70_71 : t_ins 70 71 = some (.invokevirtual 123) := by decide +kernel
theorem i_70_74 : t_ins 70 74 = some (.istore 4) := by decide +kernel
theorem i_70_76 : t_ins 70 76 = some (.iload 4) := by decide +kernel
theorem i_70_78 : t_ins 70 78 = some (.iconst (-1)) := by decide +kernel
theorem i_70_79 : t_ins 70 79 = some (.if_icmp .ne 10) := by decide +kernel
theorem i_70_82 : t_ins 70 82 = some (.aload_n 0) := by decide +kernel
theorem i_70_83 : t_ins 70 83 = some (.iconst 1) := by decide +kernel
theorem i_70_84 : t_ins 70 84 = some (.iload_n 3) := by decide +kernel
theorem i_70_85 : t_ins 70 85 = some (.invokevirtual 100) := by decide +kernel
theorem i_70_88 : t_ins 70 88 = some (.ireturn) := by decide +kernel
theorem i_70_89 : t_ins 70 89 = some (.aload_n 0) := by decide +kernel
theorem i_70_90 : t_ins 70 90 = some (.getfield 47) := by decide +kernel
theorem i_70_93 : t_ins 70 93 = some (.bipush 6) := by decide +kernel
theorem i_70_95 : t_ins 70 95 = some (.if_icmp .lt 10) := by decide +kernel
theorem i_70_98 : t_ins 70 98 = some (.aload_n 0) := by decide +kernel
theorem i_70_99 : t_ins 70 99 = some (.iconst 3) := by decide +kernel
theorem i_70_100 : t_ins 70 100 = some (.iload_n 3) := by decide +kernel
theorem i_70_101 : t_ins 70 101 = some (.invokevirtual 100) := by decide +kernel
theorem i_70_104 : t_ins 70 104 = some (.ireturn) := by decide +kernel
theorem i_70_105 : t_ins 70 105 = some (.iload 4) := by decide +kernel
theorem i_70_107 : t_ins 70 107 = some (.bipush 6) := by decide +kernel
theorem i_70_109 : t_ins 70 109 = some (.if_icmp .ne 22) := by decide +kernel
theorem i_70_112 : t_ins 70 112 = some (.aload_n 0) := by decide +kernel
theorem i_70_113 : t_ins 70 113 = some (.getfield 47) := by decide +kernel
theorem i_70_116 : t_ins 70 116 = some (.ifCond .eq 8) := by decide +kernel
theorem i_70_119 : t_ins 70 119 = some (.iload_n 1) := by decide +kernel
theorem i_70_120 : t_ins 70 120 = some (.iconst (-1)) := by decide +kernel
theorem i_70_121 : t_ins 70 121 = some (.if_icmp .eq 10) := by decide +kernel
theorem i_70_124 : t_ins 70 124 = some (.aload_n 0) := by decide +kernel
theorem i_70_125 : t_ins 70 125 = some (.iconst 4) := by decide +kernel
theorem i_70_126 : t_ins 70 126 = some (.iload_n 3) := by decide +kernel
theorem i_70_127 : t_ins 70 127 = some (.invokevirtual 100) := by decide +kernel
theorem i_70_130 : t_ins 70 130 = some (.ireturn) := by decide +kernel
theorem i_70_131 : t_ins 70 131 = some (.iload 4) := by decide +kernel
theorem i_70_133 : t_ins 70 133 = some (.bipush 6) := by decide +kernel
theorem i_70_135 : t_ins 70 135 = some (.if_icmp .ne 7) := by decide +kernel
theorem i_70_138 : t_ins 70 138 = some (.iload_n 3) := by decide +kernel
theorem i_70_139 : t_ins 70 139 = some (.goto 4) := by decide +kernel
theorem i_70_142 : t_ins 70 142 = some (.iconst (-1)) := by decide +kernel
theorem i_70_143 : t_ins 70 143 = some (.istore_n 1) := by decide +kernel
theorem i_70_144 : t_ins 70 144 = some (.aload_n 0) := by decide +kernel
theorem i_70_145 : t_ins 70 145 = some (.iload 4) := by decide +kernel
theorem i_70_147 : t_ins 70 147 = some (.invokevirtual 126) := by decide +kernel
theorem i_70_150 : t_ins 70 150 = some (.ifCond .ne 5) := by decide +kernel
theorem i_70_153 : t_ins 70 153 = some (.iconst 0) := by decide +kernel
theorem i_70_154 : t_ins 70 154 = some (.ireturn) := by decide +kernel
theorem i_70_155 : t_ins 70 155 = some (.iinc 2 1) := by decide +kernel
theorem i_70_158 : t_ins 70 158 = some (.goto (-149)) := by decide +kernel
theorem i_70_161 : t_ins 70 161 = some (.aload_n 0) := by decide +kernel
theorem i_70_162 : t_ins 70 162 = some (.iconst 3) := by decide +kernel
theorem i_70_163 : t_ins 70 163 = some (.aload_n 0) := by decide +kernel
theorem i_70_164 : t_ins 70 164 = some (.getfield 37) := by decide +kernel
theorem i_70_167 : t_ins 70 167 = some (.invokevirtual 100) := by decide +kernel
theorem i_70_170 : t_ins 70 170 = some (.ireturn) := by decide +kernel
theorem q_70_0 : XX d 70 0 [some (.ref a), v1, v2, v3, v4] st A Q ↔ XX d 70 1 [some (.ref a), v1, v2, v3, v4] (.ref a :: st) A Q := c_lcl i_70_0 rfl rfl
theorem q_70_1 : XX d 70 1 [v0, v1, v2, v3, v4] st A Q ↔ XX d 70 2 [v0, v1, v2, v3, v4] (.int (w 0) :: st) A Q := c_stk i_70_1 rfl
theorem q_70_2 : XX d 70 2 [v0, v1, v2, v3, v4] (.int x :: .ref a :: st) (mk S I L R G) Q ↔ S a = some (.inr 8) ∧ XX d 70 5 [v0, v1, v2, v3, v4] st (mk S (wr I a (up (I a) 10 x)) L R G) Q := r_pf i_70_2 rfl (by decide) rfl rfl rfl
theorem q_70_5 : XX d 70 5 [v0, v1, v2, v3, v4] st A Q ↔ XX d 70 6 [v0, v1, v2, v3, v4] (.int (w (-1)) :: st) A Q := c_stk i_70_5 rfl
theorem q_70_6 : XX d 70 6 [some (.ref b), v1, v2, v3, v4] (.int x :: st) A Q ↔ XX d 70 7 [some (.ref b), some (.int x), v2, v3, v4] st A Q := c_lcl i_70_6 rfl rfl
theorem q_70_7 : XX d 70 7 [v0, v1, v2, v3, v4] st A Q ↔ XX d 70 8 [v0, v1, v2, v3, v4] (.int (w 0) :: st) A Q := c_stk i_70_7 rfl
theorem q_70_8 : XX d 70 8 [v0, some (.int z), v2, v3, v4] (.int x :: st) A Q ↔ XX d 70 9 [v0, some (.int z), some (.int x), v3, v4] st A Q := c_lcl i_70_8 rfl rfl
theorem q_70_9 : XX d 70 9 [v0, v1, some (.int x), v3, v4] st A Q ↔ XX d 70 10 [v0, v1, some (.int x), v3, v4] (.int x :: st) A Q := c_lcl i_70_9 rfl rfl
theorem q_70_10 : XX d 70 10 [v0, v1, v2, v3, v4] st A Q ↔ XX d 70 12 [v0, v1, v2, v3, v4] (.int (w 6) :: st) A Q := c_stk i_70_10 rfl
theorem q_70_12 : XX d 70 12 [v0, v1, v2, v3, v4] (.int y :: .int x :: st) A Q ↔ if y < x then XX d 70 161 [v0, v1, v2, v3, v4] st A Q else XX d 70 15 [v0, v1, v2, v3, v4] st A Q := b_gt i_70_12 rfl rfl rfl
theorem q_70_15 : XX d 70 15 [some (.ref a), v1, v2, v3, v4] st A Q ↔ XX d 70 16 [some (.ref a), v1, v2, v3, v4] (.ref a :: st) A Q := c_lcl i_70_15 rfl rfl
theorem q_70_16 : XX (d + 1) 70 16 [v0, v1, v2, v3, v4] [.ref a0] (mk S I L R G) Q ↔ S a0 = some (.inr 8) ∧ XC d 76 [.ref a0] (mk S I L R G) (XK (d + 1) 70 16 [v0, v1, v2, v3, v4] [] Q) := c_callV i_70_16 rfl rfl rfl rfl (Nat.le_of_ble_eq_true rfl) (Nat.le_of_ble_eq_true rfl) rfl
theorem q_70_19 : XX d 70 19 [some (.ref a), v1, v2, v3, v4] st A Q ↔ XX d 70 20 [some (.ref a), v1, v2, v3, v4] (.ref a :: st) A Q := c_lcl i_70_19 rfl rfl
theorem q_70_20 : XX d 70 20 [v0, v1, v2, v3, v4] (.ref a :: st) (mk S I L R G) Q ↔ S a = some (.inr 8) ∧ XX d 70 23 [v0, v1, v2, v3, v4] (.int (I a 7) :: st) (mk S I L R G) Q := r_gf i_70_20 rfl (by decide) rfl
theorem q_70_23 : XX d 70 23 [v0, v1, some (.int z), v3, v4] (.int x :: st) A Q ↔ XX d 70 24 [v0, v1, some (.int z), some (.int x), v4] st A Q := c_lcl i_70_23 rfl rfl
theorem q_70_24 : XX d 70 24 [some (.ref a), v1, v2, v3, v4] st A Q ↔ XX d 70 25 [some (.ref a), v1, v2, v3, v4] (.ref a :: st) A Q := c_lcl i_70_24 rfl rfl
theorem q_70_25 : XX (d + 1) 70 25 [v0, v1, v2, v3, v4] [.ref a0] (mk S I L R G) Q ↔ S a0 = some (.inr 8) ∧ XC d 77 [.ref a0] (mk S I L R G) (XK (d + 1) 70 25 [v0, v1, v2, v3, v4] [] Q) := c_callV i_70_25 rfl rfl rfl rfl (Nat.le_of_ble_eq_true rfl) (Nat.le_of_ble_eq_true rfl) rfl
theorem q_70_28 : XX d 70 28 [v0, v1, v2, v3, v4] st A Q ↔ XX d 70 30 [v0, v1, v2, v3, v4] (.int (w 59) :: st) A Q := c_stk i_70_28 rfl
theorem q_70_30 : XX d 70 30 [v0, v1, v2, v3, v4] (.int y :: .int x :: st) A Q ↔ if x = y then XX d 70 33 [v0, v1, v2, v3, v4] st A Q else XX d 70 70 [v0, v1, v2, v3, v4] st A Q := b_ne i_70_30 rfl rfl rfl
theorem q_70_33 : XX d 70 33 [some (.ref a), v1, v2, v3, v4] st A Q ↔ XX d 70 34 [some (.ref a), v1, v2, v3, v4] (.ref a :: st) A Q := c_lcl i_70_33 rfl rfl
theorem q_70_34 : XX d 70 34 [v0, v1, v2, v3, v4] (.ref a :: st) (mk S I L R G) Q ↔ S a = some (.inr 8) ∧ XX d 70 37 [v0, v1, v2, v3, v4] (.int (I a 10) :: st) (mk S I L R G) Q := r_gf i_70_34 rfl (by decide) rfl
theorem q_70_37 : XX d 70 37 [v0, v1, v2, v3, v4] (.int x :: st) A Q ↔ if w 0 < x then XX d 70 40 [v0, v1, v2, v3, v4] st A Q else XX d 70 70 [v0, v1, v2, v3, v4] st A Q := z_le i_70_37 rfl rfl rfl
theorem q_70_40 : XX d 70 40 [some (.ref a), v1, v2, v3, v4] st A Q ↔ XX d 70 41 [some (.ref a), v1, v2, v3, v4] (.ref a :: st) A Q := c_lcl i_70_40 rfl rfl
theorem q_70_41 : XX d 70 41 [v0, v1, v2, v3, v4] (.ref a1 :: st) A Q ↔ XX d 70 42 [v0, v1, v2, v3, v4] (.ref a1 :: .ref a1 :: st) A Q := c_stk i_70_41 rfl
theorem q_70_42 : XX d 70 42 [v0, v1, v2, v3, v4] (.ref a :: st) (mk S I L R G) Q ↔ S a = some (.inr 8) ∧ XX d 70 45 [v0, v1, v2, v3, v4] (.int (I a 7) :: st) (mk S I L R G) Q := r_gf i_70_42 rfl (by decide) rfl
theorem q_70_45 : XX d 70 45 [v0, v1, v2, v3, v4] st A Q ↔ XX d 70 46 [v0, v1, v2, v3, v4] (.int (w 1) :: st) A Q := c_stk i_70_45 rfl
theorem q_70_46 : XX d 70 46 [v0, v1, v2, v3, v4] (.int y :: .int x :: st) A Q ↔ XX d 70 47 [v0, v1, v2, v3, v4] (.int (x + y) :: st) A Q := c_stk i_70_46 rfl
theorem q_70_47 : XX d 70 47 [v0, v1, v2, v3, v4] (.int x :: .ref a :: st) (mk S I L R G) Q ↔ S a = some (.inr 8) ∧ XX d 70 50 [v0, v1, v2, v3, v4] st (mk S (wr I a (up (I a) 7 x)) L R G) Q := r_pf i_70_47 rfl (by decide) rfl rfl rfl
theorem q_70_50 : XX d 70 50 [v0, some (.int x), v2, v3, v4] st A Q ↔ XX d 70 51 [v0, some (.int x), v2, v3, v4] (.int x :: st) A Q := c_lcl i_70_50 rfl rfl
theorem q_70_51 : XX d 70 51 [v0, v1, v2, v3, v4] st A Q ↔ XX d 70 52 [v0, v1, v2, v3, v4] (.int (w (-1)) :: st) A Q := c_stk i_70_51 rfl
theorem q_70_52 : XX d 70 52 [v0, v1, v2, v3, v4] (.int y :: .int x :: st) A Q ↔ if x = y then XX d 70 64 [v0, v1, v2, v3, v4] st A Q else XX d 70 55 [v0, v1, v2, v3, v4] st A Q := b_eq i_70_52 rfl rfl rfl
theorem q_70_55 : XX d 70 55 [some (.ref a), v1, v2, v3, v4] st A Q ↔ XX d 70 56 [some (.ref a), v1, v2, v3, v4] (.ref a :: st) A Q := c_lcl i_70_55 rfl rfl
theorem q_70_56 : XX d 70 56 [v0, v1, v2, v3, v4] st A Q ↔ XX d 70 57 [v0, v1, v2, v3, v4] (.int (w 4) :: st) A Q := c_stk i_70_56 rfl
theorem q_70_57 : XX d 70 57 [v0, some (.int x), v2, v3, v4] st A Q ↔ XX d 70 58 [v0, some (.int x), v2, v3, v4] (.int x :: st) A Q := c_lcl i_70_57 rfl rfl
theorem q_70_58 : XX (d + 1) 70 58 [v0, v1, v2, v3, v4] [.int x2, .int x1, .ref a0] (mk S I L R G) Q ↔ S a0 = some (.inr 8) ∧ XC d 79 [.ref a0, .int x1, .int x2] (mk S I L R G) (XK (d + 1) 70 58 [v0, v1, v2, v3, v4] [] Q) := c_callV i_70_58 rfl rfl rfl rfl (Nat.le_of_ble_eq_true rfl) (Nat.le_of_ble_eq_true rfl) rfl
theorem q_70_61 : XX d 70 61 [v0, v1, v2, v3, v4] (.int x :: st) A Q ↔ if x = w 0 then XX d 70 68 [v0, v1, v2, v3, v4] st A Q else XX d 70 64 [v0, v1, v2, v3, v4] st A Q := z_eq i_70_61 rfl rfl rfl
theorem q_70_64 : XX d 70 64 [v0, v1, v2, v3, v4] st A Q ↔ XX d 70 65 [v0, v1, v2, v3, v4] (.int (w 1) :: st) A Q := c_stk i_70_64 rfl
theorem q_70_65 : XX d 70 65 [v0, v1, v2, v3, v4] st A Q ↔ XX d 70 69 [v0, v1, v2, v3, v4] st A Q := c_go i_70_65 rfl rfl
theorem q_70_68 : XX d 70 68 [v0, v1, v2, v3, v4] st A Q ↔ XX d 70 69 [v0, v1, v2, v3, v4] (.int (w 0) :: st) A Q := c_stk i_70_68 rfl
theorem q_70_69 : XX d 70 69 [v0, v1, v2, v3, v4] [.int x] A Q ↔ (x = w 0 ∨ x = w 1) ∧ Q (.inl (some (.int x))) A := e_retZ i_70_69 rfl
theorem q_70_70 : XX d 70 70 [some (.ref a), v1, v2, v3, v4] st A Q ↔ XX d 70 71 [some (.ref a), v1, v2, v3, v4] (.ref a :: st) A Q := c_lcl i_70_70 rfl rfl
theorem q_70_71 : XX (d + 1) 70 71 [v0, v1, v2, v3, v4] [.ref a0] (mk S I L R G) Q ↔ S a0 = some (.inr 8) ∧ XC d 72 [.ref a0] (mk S I L R G) (XK (d + 1) 70 71 [v0, v1, v2, v3, v4] [] Q) := c_callV i_70_71 rfl rfl rfl rfl (Nat.le_of_ble_eq_true rfl) (Nat.le_of_ble_eq_true rfl) rfl
theorem q_70_74 : XX d 70 74 [v0, v1, v2, some (.int z), v4] (.int x :: st) A Q ↔ XX d 70 76 [v0, v1, v2, some (.int z), some (.int x)] st A Q := c_lcl i_70_74 rfl rfl
theorem q_70_76 : XX d 70 76 [v0, v1, v2, v3, some (.int x)] st A Q ↔ XX d 70 78 [v0, v1, v2, v3, some (.int x)] (.int x :: st) A Q := c_lcl i_70_76 rfl rfl
theorem q_70_78 : XX d 70 78 [v0, v1, v2, v3, v4] st A Q ↔ XX d 70 79 [v0, v1, v2, v3, v4] (.int (w (-1)) :: st) A Q := c_stk i_70_78 rfl
theorem q_70_79 : XX d 70 79 [v0, v1, v2, v3, v4] (.int y :: .int x :: st) A Q ↔ if x = y then XX d 70 82 [v0, v1, v2, v3, v4] st A Q else XX d 70 89 [v0, v1, v2, v3, v4] st A Q := b_ne i_70_79 rfl rfl rfl
theorem q_70_82 : XX d 70 82 [some (.ref a), v1, v2, v3, v4] st A Q ↔ XX d 70 83 [some (.ref a), v1, v2, v3, v4] (.ref a :: st) A Q := c_lcl i_70_82 rfl rfl
theorem q_70_83 : XX d 70 83 [v0, v1, v2, v3, v4] st A Q ↔ XX d 70 84 [v0, v1, v2, v3, v4] (.int (w 1) :: st) A Q := c_stk i_70_83 rfl
theorem q_70_84 : XX d 70 84 [v0, v1, v2, some (.int x), v4] st A Q ↔ XX d 70 85 [v0, v1, v2, some (.int x), v4] (.int x :: st) A Q := c_lcl i_70_84 rfl rfl
theorem q_70_85 : XX (d + 1) 70 85 [v0, v1, v2, v3, v4] [.int x2, .int x1, .ref a0] (mk S I L R G) Q ↔ S a0 = some (.inr 8) ∧ XC d 79 [.ref a0, .int x1, .int x2] (mk S I L R G) (XK (d + 1) 70 85 [v0, v1, v2, v3, v4] [] Q) := c_callV i_70_85 rfl rfl rfl rfl (Nat.le_of_ble_eq_true rfl) (Nat.le_of_ble_eq_true rfl) rfl
theorem q_70_88 : XX d 70 88 [v0, v1, v2, v3, v4] [.int x] A Q ↔ (x = w 0 ∨ x = w 1) ∧ Q (.inl (some (.int x))) A := e_retZ i_70_88 rfl
theorem q_70_89 : XX d 70 89 [some (.ref a), v1, v2, v3, v4] st A Q ↔ XX d 70 90 [some (.ref a), v1, v2, v3, v4] (.ref a :: st) A Q := c_lcl i_70_89 rfl rfl
theorem q_70_90 : XX d 70 90 [v0, v1, v2, v3, v4] (.ref a :: st) (mk S I L R G) Q ↔ S a = some (.inr 8) ∧ XX d 70 93 [v0, v1, v2, v3, v4] (.int (I a 10) :: st) (mk S I L R G) Q := r_gf i_70_90 rfl (by decide) rfl
theorem q_70_93 : XX d 70 93 [v0, v1, v2, v3, v4] st A Q ↔ XX d 70 95 [v0, v1, v2, v3, v4] (.int (w 6) :: st) A Q := c_stk i_70_93 rfl
theorem q_70_95 : XX d 70 95 [v0, v1, v2, v3, v4] (.int y :: .int x :: st) A Q ↔ if x < y then XX d 70 105 [v0, v1, v2, v3, v4] st A Q else XX d 70 98 [v0, v1, v2, v3, v4] st A Q := b_lt i_70_95 rfl rfl rfl
theorem q_70_98 : XX d 70 98 [some (.ref a), v1, v2, v3, v4] st A Q ↔ XX d 70 99 [some (.ref a), v1, v2, v3, v4] (.ref a :: st) A Q := c_lcl i_70_98 rfl rfl
theorem q_70_99 : XX d 70 99 [v0, v1, v2, v3, v4] st A Q ↔ XX d 70 100 [v0, v1, v2, v3, v4] (.int (w 3) :: st) A Q := c_stk i_70_99 rfl
theorem q_70_100 : XX d 70 100 [v0, v1, v2, some (.int x), v4] st A Q ↔ XX d 70 101 [v0, v1, v2, some (.int x), v4] (.int x :: st) A Q := c_lcl i_70_100 rfl rfl
theorem q_70_101 : XX (d + 1) 70 101 [v0, v1, v2, v3, v4] [.int x2, .int x1, .ref a0] (mk S I L R G) Q ↔ S a0 = some (.inr 8) ∧ XC d 79 [.ref a0, .int x1, .int x2] (mk S I L R G) (XK (d + 1) 70 101 [v0, v1, v2, v3, v4] [] Q) := c_callV i_70_101 rfl rfl rfl rfl (Nat.le_of_ble_eq_true rfl) (Nat.le_of_ble_eq_true rfl) rfl
theorem q_70_104 : XX d 70 104 [v0, v1, v2, v3, v4] [.int x] A Q ↔ (x = w 0 ∨ x = w 1) ∧ Q (.inl (some (.int x))) A := e_retZ i_70_104 rfl
theorem q_70_105 : XX d 70 105 [v0, v1, v2, v3, some (.int x)] st A Q ↔ XX d 70 107 [v0, v1, v2, v3, some (.int x)] (.int x :: st) A Q := c_lcl i_70_105 rfl rfl
theorem q_70_107 : XX d 70 107 [v0, v1, v2, v3, v4] st A Q ↔ XX d 70 109 [v0, v1, v2, v3, v4] (.int (w 6) :: st) A Q := c_stk i_70_107 rfl
theorem q_70_109 : XX d 70 109 [v0, v1, v2, v3, v4] (.int y :: .int x :: st) A Q ↔ if x = y then XX d 70 112 [v0, v1, v2, v3, v4] st A Q else XX d 70 131 [v0, v1, v2, v3, v4] st A Q := b_ne i_70_109 rfl rfl rfl
theorem q_70_112 : XX d 70 112 [some (.ref a), v1, v2, v3, v4] st A Q ↔ XX d 70 113 [some (.ref a), v1, v2, v3, v4] (.ref a :: st) A Q := c_lcl i_70_112 rfl rfl
theorem q_70_113 : XX d 70 113 [v0, v1, v2, v3, v4] (.ref a :: st) (mk S I L R G) Q ↔ S a = some (.inr 8) ∧ XX d 70 116 [v0, v1, v2, v3, v4] (.int (I a 10) :: st) (mk S I L R G) Q := r_gf i_70_113 rfl (by decide) rfl
theorem q_70_116 : XX d 70 116 [v0, v1, v2, v3, v4] (.int x :: st) A Q ↔ if x = w 0 then XX d 70 124 [v0, v1, v2, v3, v4] st A Q else XX d 70 119 [v0, v1, v2, v3, v4] st A Q := z_eq i_70_116 rfl rfl rfl
theorem q_70_119 : XX d 70 119 [v0, some (.int x), v2, v3, v4] st A Q ↔ XX d 70 120 [v0, some (.int x), v2, v3, v4] (.int x :: st) A Q := c_lcl i_70_119 rfl rfl
theorem q_70_120 : XX d 70 120 [v0, v1, v2, v3, v4] st A Q ↔ XX d 70 121 [v0, v1, v2, v3, v4] (.int (w (-1)) :: st) A Q := c_stk i_70_120 rfl
theorem q_70_121 : XX d 70 121 [v0, v1, v2, v3, v4] (.int y :: .int x :: st) A Q ↔ if x = y then XX d 70 131 [v0, v1, v2, v3, v4] st A Q else XX d 70 124 [v0, v1, v2, v3, v4] st A Q := b_eq i_70_121 rfl rfl rfl
theorem q_70_124 : XX d 70 124 [some (.ref a), v1, v2, v3, v4] st A Q ↔ XX d 70 125 [some (.ref a), v1, v2, v3, v4] (.ref a :: st) A Q := c_lcl i_70_124 rfl rfl
theorem q_70_125 : XX d 70 125 [v0, v1, v2, v3, v4] st A Q ↔ XX d 70 126 [v0, v1, v2, v3, v4] (.int (w 4) :: st) A Q := c_stk i_70_125 rfl
theorem q_70_126 : XX d 70 126 [v0, v1, v2, some (.int x), v4] st A Q ↔ XX d 70 127 [v0, v1, v2, some (.int x), v4] (.int x :: st) A Q := c_lcl i_70_126 rfl rfl
theorem q_70_127 : XX (d + 1) 70 127 [v0, v1, v2, v3, v4] [.int x2, .int x1, .ref a0] (mk S I L R G) Q ↔ S a0 = some (.inr 8) ∧ XC d 79 [.ref a0, .int x1, .int x2] (mk S I L R G) (XK (d + 1) 70 127 [v0, v1, v2, v3, v4] [] Q) := c_callV i_70_127 rfl rfl rfl rfl (Nat.le_of_ble_eq_true rfl) (Nat.le_of_ble_eq_true rfl) rfl
theorem q_70_130 : XX d 70 130 [v0, v1, v2, v3, v4] [.int x] A Q ↔ (x = w 0 ∨ x = w 1) ∧ Q (.inl (some (.int x))) A := e_retZ i_70_130 rfl
theorem q_70_131 : XX d 70 131 [v0, v1, v2, v3, some (.int x)] st A Q ↔ XX d 70 133 [v0, v1, v2, v3, some (.int x)] (.int x :: st) A Q := c_lcl i_70_131 rfl rfl
theorem q_70_133 : XX d 70 133 [v0, v1, v2, v3, v4] st A Q ↔ XX d 70 135 [v0, v1, v2, v3, v4] (.int (w 6) :: st) A Q := c_stk i_70_133 rfl
theorem q_70_135 : XX d 70 135 [v0, v1, v2, v3, v4] (.int y :: .int x :: st) A Q ↔ if x = y then XX d 70 138 [v0, v1, v2, v3, v4] st A Q else XX d 70 142 [v0, v1, v2, v3, v4] st A Q := b_ne i_70_135 rfl rfl rfl
theorem q_70_138 : XX d 70 138 [v0, v1, v2, some (.int x), v4] st A Q ↔ XX d 70 139 [v0, v1, v2, some (.int x), v4] (.int x :: st) A Q := c_lcl i_70_138 rfl rfl
theorem q_70_139 : XX d 70 139 [v0, v1, v2, v3, v4] st A Q ↔ XX d 70 143 [v0, v1, v2, v3, v4] st A Q := c_go i_70_139 rfl rfl
theorem q_70_142 : XX d 70 142 [v0, v1, v2, v3, v4] st A Q ↔ XX d 70 143 [v0, v1, v2, v3, v4] (.int (w (-1)) :: st) A Q := c_stk i_70_142 rfl
theorem q_70_143 : XX d 70 143 [some (.ref b), v1, v2, v3, v4] (.int x :: st) A Q ↔ XX d 70 144 [some (.ref b), some (.int x), v2, v3, v4] st A Q := c_lcl i_70_143 rfl rfl
theorem q_70_144 : XX d 70 144 [some (.ref a), v1, v2, v3, v4] st A Q ↔ XX d 70 145 [some (.ref a), v1, v2, v3, v4] (.ref a :: st) A Q := c_lcl i_70_144 rfl rfl
theorem q_70_145 : XX d 70 145 [v0, v1, v2, v3, some (.int x)] st A Q ↔ XX d 70 147 [v0, v1, v2, v3, some (.int x)] (.int x :: st) A Q := c_lcl i_70_145 rfl rfl
theorem q_70_147 : XX (d + 1) 70 147 [v0, v1, v2, v3, v4] [.int x1, .ref a0] (mk S I L R G) Q ↔ S a0 = some (.inr 8) ∧ XC d 71 [.ref a0, .int x1] (mk S I L R G) (XK (d + 1) 70 147 [v0, v1, v2, v3, v4] [] Q) := c_callV i_70_147 rfl rfl rfl rfl (Nat.le_of_ble_eq_true rfl) (Nat.le_of_ble_eq_true rfl) rfl
theorem q_70_150 : XX d 70 150 [v0, v1, v2, v3, v4] (.int x :: st) A Q ↔ if x = w 0 then XX d 70 153 [v0, v1, v2, v3, v4] st A Q else XX d 70 155 [v0, v1, v2, v3, v4] st A Q := z_ne i_70_150 rfl rfl rfl
theorem q_70_153 : XX d 70 153 [v0, v1, v2, v3, v4] st A Q ↔ XX d 70 154 [v0, v1, v2, v3, v4] (.int (w 0) :: st) A Q := c_stk i_70_153 rfl
theorem q_70_154 : XX d 70 154 [v0, v1, v2, v3, v4] [.int x] A Q ↔ (x = w 0 ∨ x = w 1) ∧ Q (.inl (some (.int x))) A := e_retZ i_70_154 rfl
theorem q_70_155 : XX d 70 155 [v0, some (.int z), some (.int x), v3, v4] st A Q ↔ XX d 70 158 [v0, some (.int z), some (.int (x + w 1)), v3, v4] st A Q := c_lcl i_70_155 rfl rfl
theorem q_70_158 : XX d 70 158 [v0, v1, v2, v3, v4] st A Q ↔ XX d 70 9 [v0, v1, v2, v3, v4] st A Q := c_go i_70_158 rfl rfl
theorem q_70_161 : XX d 70 161 [some (.ref a), v1, v2, v3, v4] st A Q ↔ XX d 70 162 [some (.ref a), v1, v2, v3, v4] (.ref a :: st) A Q := c_lcl i_70_161 rfl rfl
theorem q_70_162 : XX d 70 162 [v0, v1, v2, v3, v4] st A Q ↔ XX d 70 163 [v0, v1, v2, v3, v4] (.int (w 3) :: st) A Q := c_stk i_70_162 rfl
theorem q_70_163 : XX d 70 163 [some (.ref a), v1, v2, v3, v4] st A Q ↔ XX d 70 164 [some (.ref a), v1, v2, v3, v4] (.ref a :: st) A Q := c_lcl i_70_163 rfl rfl
theorem q_70_164 : XX d 70 164 [v0, v1, v2, v3, v4] (.ref a :: st) (mk S I L R G) Q ↔ S a = some (.inr 8) ∧ XX d 70 167 [v0, v1, v2, v3, v4] (.int (I a 7) :: st) (mk S I L R G) Q := r_gf i_70_164 rfl (by decide) rfl
theorem q_70_167 : XX (d + 1) 70 167 [v0, v1, v2, v3, v4] [.int x2, .int x1, .ref a0] (mk S I L R G) Q ↔ S a0 = some (.inr 8) ∧ XC d 79 [.ref a0, .int x1, .int x2] (mk S I L R G) (XK (d + 1) 70 167 [v0, v1, v2, v3, v4] [] Q) := c_callV i_70_167 rfl rfl rfl rfl (Nat.le_of_ble_eq_true rfl) (Nat.le_of_ble_eq_true rfl) rfl
theorem q_70_170 : XX d 70 170 [v0, v1, v2, v3, v4] [.int x] A Q ↔ (x = w 0 ∨ x = w 1) ∧ Q (.inl (some (.int x))) A := e_retZ i_70_170 rfl
theorem q_70_e : XC d 70 [.ref a0] A Q ↔ XX d 70 0 [some (.ref a0), none, none, none, none] [] A Q := Iff.rfl
theorem i_71_0 : t_ins 71 0 = some (.iconst 0) := by decide +kernel
theorem i_71_1 : t_ins 71 1 = some (.istore_n 2) := by decide +kernel
theorem i_71_2 : t_ins 71 2 = some (.lconst 0) := by decide +kernel
theorem i_71_3 : t_ins 71 3 = some (.lstore_n 3) := by decide +kernel
theorem i_71_4 : t_ins 71 4 = some (.iload_n 1) := by decide +kernel
theorem i_71_5 : t_ins 71 5 = some (.ifCond .ne 76) := by decide +kernel
theorem i_71_8 : t_ins 71 8 = some (.aload_n 0) := by decide +kernel
theorem i_71_9 : t_ins 71 9 = some (.invokevirtual 129) := by decide +kernel
theorem i_71_12 : t_ins 71 12 = some (.istore 5) := by decide +kernel
theorem i_71_14 : t_ins 71 14 = some (.iload 5) := by decide +kernel
theorem i_71_16 : t_ins 71 16 = some (.aload_n 0) := by decide +kernel
theorem i_71_17 : t_ins 71 17 = some (.getfield 37) := by decide +kernel
theorem i_71_20 : t_ins 71 20 = some (.isub) := by decide +kernel
theorem i_71_21 : t_ins 71 21 = some (.istore_n 2) := by decide +kernel
theorem i_71_22 : t_ins 71 22 = some (.iload_n 2) := by decide +kernel
theorem i_71_23 : t_ins 71 23 = some (.bipush 8) := by decide +kernel
theorem i_71_25 : t_ins 71 25 = some (.if_icmp .le 13) := by decide +kernel
theorem i_71_28 : t_ins 71 28 = some (.aload_n 0) := by decide +kernel
theorem i_71_29 : t_ins 71 29 = some (.iconst 1) := by decide +kernel
theorem i_71_30 : t_ins 71 30 = some (.aload_n 0) := by decide +kernel
theorem i_71_31 : t_ins 71 31 = some (.getfield 37) := by decide +kernel
theorem i_71_34 : t_ins 71 34 = some (.invokevirtual 100) := by decide +kernel
theorem i_71_37 : t_ins 71 37 = some (.ireturn) := by decide +kernel
theorem i_71_38 : t_ins 71 38 = some (.iload_n 2) := by decide +kernel
theorem i_71_39 : t_ins 71 39 = some (.iconst 1) := by decide +kernel
theorem i_71_40 : t_ins 71 40 = some (.isub) := by decide +kernel
theorem i_71_41 : t_ins 71 41 = some (.istore 6) := by decide +kernel
theorem i_71_43 : t_ins 71 43 = some (.iload 6) := by decide +kernel
theorem i_71_45 : t_ins 71 45 = some (.ifCond .lt 27) := by decide +kernel
theorem i_71_48 : t_ins 71 48 = some (.lload_n 3) := by decide +kernel
theorem i_71_49 : t_ins 71 49 = some (.bipush 8) := by decide +kernel
theorem i_71_51 : t_ins 71 51 = some (.lshl) := by decide +kernel
theorem i_71_52 : t_ins 71 52 = some (.aload_n 0) := by decide +kernel
theorem i_71_53 : t_ins 71 53 = some (.aload_n 0) := by decide +kernel
theorem i_71_54 : t_ins 71 54 = some (.getfield 37) := by decide +kernel
theorem i_71_57 : t_ins 71 57 = some (.iload 6) := by decide +kernel
theorem i_71_59 : t_ins 71 59 = some (.iadd) := by decide +kernel
theorem i_71_60 : t_ins 71 60 = some (.invokevirtual 132) := by decide +kernel
theorem i_71_63 : t_ins 71 63 = some (.i2l) := by decide +kernel
theorem i_71_64 : t_ins 71 64 = some (.lor) := by decide +kernel
theorem i_71_65 : t_ins 71 65 = some (.lstore_n 3) := by decide +kernel
theorem i_71_66 : t_ins 71 66 = some (.iinc 6 (-1)) := by decide +kernel
theorem i_71_69 : t_ins 71 69 = some (.goto (-26)) := by decide +kernel
theorem i_71_72 : t_ins 71 72 = some (.aload_n 0) := by decide +kernel
theorem i_71_73 : t_ins 71 73 = some (.iload 5) := by decide +kernel
theorem i_71_75 : t_ins 71 75 = some (.putfield 37) := by decide +kernel
theorem i_71_78 : t_ins 71 78 = some (.goto 46) := by decide +kernel
theorem i_71_81 : t_ins 71 81 = some (.aload_n 0) := by decide +kernel
theorem i_71_82 : t_ins 71 82 = some (.dup) := by decide +kernel
theorem i_71_83 : t_ins 71 83 = some (.getfield 37) := by decide +kernel
theorem i_71_86 : t_ins 71 86 = some (.iconst 1) := by decide +kernel
theorem i_71_87 : t_ins 71 87 = some (.iadd) := by decide +kernel
theorem i_71_88 : t_ins 71 88 = some (.putfield 37) := by decide +kernel
theorem i_71_91 : t_ins 71 91 = some (.iload_n 1) := by decide +kernel
theorem i_71_92 : t_ins 71 92 = some (.bipush 6) := by decide +kernel
theorem i_71_94 : t_ins 71 94 = some (.if_icmp .eq 15) := by decide +kernel
theorem i_71_97 : t_ins 71 97 = some (.aload_n 0) := by decide +kernel
theorem i_71_98 : t_ins 71 98 = some (.iconst 1) := by decide +kernel
theorem i_71_99 : t_ins 71 99 = some (.ldc 135) := by decide +kernel
theorem i_71_101 : t_ins 71 101 = some (.invokevirtual 104) := by decide +kernel
theorem i_71_104 : t_ins 71 104 = some (.ifCond .ne 5) := by decide +kernel
theorem i_71_107 : t_ins 71 107 = some (.iconst 0) := by decide +kernel
theorem i_71_108 : t_ins 71 108 = some (.ireturn) := by decide +kernel
theorem i_71_109 : t_ins 71 109 = some (.iload_n 1) := by decide +kernel
theorem i_71_110 : t_ins 71 110 = some (.bipush 6) := by decide +kernel
theorem i_71_112 : t_ins 71 112 = some (.if_icmp .ne 7) := by decide +kernel
theorem i_71_115 : t_ins 71 115 = some (.iconst 0) := by decide +kernel
theorem i_71_116 : t_ins 71 116 = some (.goto 7) := by decide +kernel
theorem i_71_119 : t_ins 71 119 = some (.aload_n 0) := by decide +kernel
theorem i_71_120 : t_ins 71 120 = some (.getfield 40) := by decide +kernel
theorem i_71_123 : t_ins 71 123 = some (.istore_n 2) := by decide +kernel
theorem i_71_124 : t_ins 71 124 = some (.aload_n 0) := by decide +kernel
theorem i_71_125 : t_ins 71 125 = some (.getfield 47) := by decide +kernel
theorem i_71_128 : t_ins 71 128 = some (.ifCond .lt 52) := by decide +kernel
theorem i_71_131 : t_ins 71 131 = some (.aload_n 0) := by decide +kernel
theorem i_71_132 : t_ins 71 132 = some (.getfield 47) := by decide +kernel
theorem i_71_135 : t_ins 71 135 = some (.bipush 6) := by decide +kernel
theorem i_71_137 : t_ins 71 137 = some (.if_icmp .ge 43) := by decide +kernel
theorem i_71_140 : t_ins 71 140 = some (.aload_n 0) := by decide +kernel
theorem i_71_141 : t_ins 71 141 = some (.getfield 50) := by decide +kernel
theorem i_71_144 : t_ins 71 144 = some (.aload_n 0) := by decide +kernel
theorem i_71_145 : t_ins 71 145 = some (.getfield 47) := by decide +kernel
theorem i_71_148 : t_ins 71 148 = some (.iload_n 1) := by decide +kernel
theorem i_71_149 : t_ins 71 149 = some (.iastore) := by decide +kernel
theorem i_71_150 : t_ins 71 150 = some (.aload_n 0) := by decide +kernel
theorem i_71_151 : t_ins 71 151 = some (.getfield 53) := by decide +kernel
theorem i_71_154 : t_ins 71 154 = some (.aload_n 0) := by decide +kernel
theorem i_71_155 : t_ins 71 155 = some (.getfield 47) := by decide +kernel
theorem i_71_158 : t_ins 71 158 = some (.iload_n 2) := by decide +kernel
theorem i_71_159 : t_ins 71 159 = some (.iastore) := by decide +kernel
theorem i_71_160 : t_ins 71 160 = some (.aload_n 0) := by decide +kernel
theorem i_71_161 : t_ins 71 161 = some (.getfield 56) := by decide +kernel
theorem i_71_164 : t_ins 71 164 = some (.aload_n 0) := by decide +kernel
theorem i_71_165 : t_ins 71 165 = some (.getfield 47) := by decide +kernel
theorem i_71_168 : t_ins 71 168 = some (.lload_n 3) := by decide +kernel
theorem i_71_169 : t_ins 71 169 = some (.lastore) := by decide +kernel
theorem i_71_170 : t_ins 71 170 = some (.aload_n 0) := by decide +kernel
theorem i_71_171 : t_ins 71 171 = some (.dup) := by decide +kernel
theorem i_71_172 : t_ins 71 172 = some (.getfield 47) := by decide +kernel
theorem i_71_175 : t_ins 71 175 = some (.iconst 1) := by decide +kernel
theorem i_71_176 : t_ins 71 176 = some (.iadd) := by decide +kernel
theorem i_71_177 : t_ins 71 177 = some (.putfield 47) := by decide +kernel
theorem i_71_180 : t_ins 71 180 = some (.iconst 1) := by decide +kernel
theorem i_71_181 : t_ins 71 181 = some (.ireturn) := by decide +kernel
theorem q_71_0 : XX d 71 0 [v0, v1, v2, v3, v4, v5, v6] st A Q ↔ XX d 71 1 [v0, v1, v2, v3, v4, v5, v6] (.int (w 0) :: st) A Q := c_stk i_71_0 rfl
theorem q_71_1 : XX d 71 1 [v0, some (.int z), v2, v3, v4, v5, v6] (.int x :: st) A Q ↔ XX d 71 2 [v0, some (.int z), some (.int x), v3, v4, v5, v6] st A Q := c_lcl i_71_1 rfl rfl
theorem q_71_2 : XX d 71 2 [v0, v1, v2, v3, v4, v5, v6] st A Q ↔ XX d 71 3 [v0, v1, v2, v3, v4, v5, v6] (.long (wl 0) :: st) A Q := c_stk i_71_2 rfl
theorem q_71_3 : XX d 71 3 [v0, v1, some (.int z), v3, v4, v5, v6] (.long lx :: st) A Q ↔ XX d 71 4 [v0, v1, some (.int z), some (.long lx), none, v5, v6] st A Q := c_lcl i_71_3 rfl rfl
theorem q_71_4 : XX d 71 4 [v0, some (.int x), v2, v3, v4, v5, v6] st A Q ↔ XX d 71 5 [v0, some (.int x), v2, v3, v4, v5, v6] (.int x :: st) A Q := c_lcl i_71_4 rfl rfl
theorem q_71_5 : XX d 71 5 [v0, v1, v2, v3, v4, v5, v6] (.int x :: st) A Q ↔ if x = w 0 then XX d 71 8 [v0, v1, v2, v3, v4, v5, v6] st A Q else XX d 71 81 [v0, v1, v2, v3, v4, v5, v6] st A Q := z_ne i_71_5 rfl rfl rfl
theorem q_71_8 : XX d 71 8 [some (.ref a), v1, v2, v3, v4, v5, v6] st A Q ↔ XX d 71 9 [some (.ref a), v1, v2, v3, v4, v5, v6] (.ref a :: st) A Q := c_lcl i_71_8 rfl rfl
theorem q_71_9 : XX (d + 1) 71 9 [v0, v1, v2, v3, v4, v5, v6] [.ref a0] (mk S I L R G) Q ↔ S a0 = some (.inr 8) ∧ XC d 75 [.ref a0] (mk S I L R G) (XK (d + 1) 71 9 [v0, v1, v2, v3, v4, v5, v6] [] Q) := c_callV i_71_9 rfl rfl rfl rfl (Nat.le_of_ble_eq_true rfl) (Nat.le_of_ble_eq_true rfl) rfl
theorem q_71_12 : XX d 71 12 [v0, v1, v2, v3, none, v5, v6] (.int x :: st) A Q ↔ XX d 71 14 [v0, v1, v2, v3, none, some (.int x), v6] st A Q := c_lcl i_71_12 rfl rfl
theorem q_71_14 : XX d 71 14 [v0, v1, v2, v3, v4, some (.int x), v6] st A Q ↔ XX d 71 16 [v0, v1, v2, v3, v4, some (.int x), v6] (.int x :: st) A Q := c_lcl i_71_14 rfl rfl
theorem q_71_16 : XX d 71 16 [some (.ref a), v1, v2, v3, v4, v5, v6] st A Q ↔ XX d 71 17 [some (.ref a), v1, v2, v3, v4, v5, v6] (.ref a :: st) A Q := c_lcl i_71_16 rfl rfl
theorem q_71_17 : XX d 71 17 [v0, v1, v2, v3, v4, v5, v6] (.ref a :: st) (mk S I L R G) Q ↔ S a = some (.inr 8) ∧ XX d 71 20 [v0, v1, v2, v3, v4, v5, v6] (.int (I a 7) :: st) (mk S I L R G) Q := r_gf i_71_17 rfl (by decide) rfl
theorem q_71_20 : XX d 71 20 [v0, v1, v2, v3, v4, v5, v6] (.int y :: .int x :: st) A Q ↔ XX d 71 21 [v0, v1, v2, v3, v4, v5, v6] (.int (x - y) :: st) A Q := c_stk i_71_20 rfl
theorem q_71_21 : XX d 71 21 [v0, some (.int z), v2, v3, v4, v5, v6] (.int x :: st) A Q ↔ XX d 71 22 [v0, some (.int z), some (.int x), v3, v4, v5, v6] st A Q := c_lcl i_71_21 rfl rfl
theorem q_71_22 : XX d 71 22 [v0, v1, some (.int x), v3, v4, v5, v6] st A Q ↔ XX d 71 23 [v0, v1, some (.int x), v3, v4, v5, v6] (.int x :: st) A Q := c_lcl i_71_22 rfl rfl
theorem q_71_23 : XX d 71 23 [v0, v1, v2, v3, v4, v5, v6] st A Q ↔ XX d 71 25 [v0, v1, v2, v3, v4, v5, v6] (.int (w 8) :: st) A Q := c_stk i_71_23 rfl
theorem q_71_25 : XX d 71 25 [v0, v1, v2, v3, v4, v5, v6] (.int y :: .int x :: st) A Q ↔ if y < x then XX d 71 28 [v0, v1, v2, v3, v4, v5, v6] st A Q else XX d 71 38 [v0, v1, v2, v3, v4, v5, v6] st A Q := b_le i_71_25 rfl rfl rfl
theorem q_71_28 : XX d 71 28 [some (.ref a), v1, v2, v3, v4, v5, v6] st A Q ↔ XX d 71 29 [some (.ref a), v1, v2, v3, v4, v5, v6] (.ref a :: st) A Q := c_lcl i_71_28 rfl rfl
theorem q_71_29 : XX d 71 29 [v0, v1, v2, v3, v4, v5, v6] st A Q ↔ XX d 71 30 [v0, v1, v2, v3, v4, v5, v6] (.int (w 1) :: st) A Q := c_stk i_71_29 rfl
theorem q_71_30 : XX d 71 30 [some (.ref a), v1, v2, v3, v4, v5, v6] st A Q ↔ XX d 71 31 [some (.ref a), v1, v2, v3, v4, v5, v6] (.ref a :: st) A Q := c_lcl i_71_30 rfl rfl
theorem q_71_31 : XX d 71 31 [v0, v1, v2, v3, v4, v5, v6] (.ref a :: st) (mk S I L R G) Q ↔ S a = some (.inr 8) ∧ XX d 71 34 [v0, v1, v2, v3, v4, v5, v6] (.int (I a 7) :: st) (mk S I L R G) Q := r_gf i_71_31 rfl (by decide) rfl
theorem q_71_34 : XX (d + 1) 71 34 [v0, v1, v2, v3, v4, v5, v6] [.int x2, .int x1, .ref a0] (mk S I L R G) Q ↔ S a0 = some (.inr 8) ∧ XC d 79 [.ref a0, .int x1, .int x2] (mk S I L R G) (XK (d + 1) 71 34 [v0, v1, v2, v3, v4, v5, v6] [] Q) := c_callV i_71_34 rfl rfl rfl rfl (Nat.le_of_ble_eq_true rfl) (Nat.le_of_ble_eq_true rfl) rfl
theorem q_71_37 : XX d 71 37 [v0, v1, v2, v3, v4, v5, v6] [.int x] A Q ↔ (x = w 0 ∨ x = w 1) ∧ Q (.inl (some (.int x))) A := e_retZ i_71_37 rfl
theorem q_71_38 : XX d 71 38 [v0, v1, some (.int x), v3, v4, v5, v6] st A Q ↔ XX d 71 39 [v0, v1, some (.int x), v3, v4, v5, v6] (.int x :: st) A Q := c_lcl i_71_38 rfl rfl
theorem q_71_39 : XX d 71 39 [v0, v1, v2, v3, v4, v5, v6] st A Q ↔ XX d 71 40 [v0, v1, v2, v3, v4, v5, v6] (.int (w 1) :: st) A Q := c_stk i_71_39 rfl
theorem q_71_40 : XX d 71 40 [v0, v1, v2, v3, v4, v5, v6] (.int y :: .int x :: st) A Q ↔ XX d 71 41 [v0, v1, v2, v3, v4, v5, v6] (.int (x - y) :: st) A Q := c_stk i_71_40 rfl
theorem q_71_41 : XX d 71 41 [v0, v1, v2, v3, v4, some (.int z), v6] (.int x :: st) A Q ↔ XX d 71 43 [v0, v1, v2, v3, v4, some (.int z), some (.int x)] st A Q := c_lcl i_71_41 rfl rfl
theorem q_71_43 : XX d 71 43 [v0, v1, v2, v3, v4, v5, some (.int x)] st A Q ↔ XX d 71 45 [v0, v1, v2, v3, v4, v5, some (.int x)] (.int x :: st) A Q := c_lcl i_71_43 rfl rfl
theorem q_71_45 : XX d 71 45 [v0, v1, v2, v3, v4, v5, v6] (.int x :: st) A Q ↔ if x < w 0 then XX d 71 72 [v0, v1, v2, v3, v4, v5, v6] st A Q else XX d 71 48 [v0, v1, v2, v3, v4, v5, v6] st A Q := z_lt i_71_45 rfl rfl rfl
theorem q_71_48 : XX d 71 48 [v0, v1, v2, some (.long lx), v4, v5, v6] st A Q ↔ XX d 71 49 [v0, v1, v2, some (.long lx), v4, v5, v6] (.long lx :: st) A Q := c_lcl i_71_48 rfl rfl
theorem q_71_49 : XX d 71 49 [v0, v1, v2, v3, v4, v5, v6] st A Q ↔ XX d 71 51 [v0, v1, v2, v3, v4, v5, v6] (.int (w 8) :: st) A Q := c_stk i_71_49 rfl
theorem q_71_51 : XX d 71 51 [v0, v1, v2, v3, v4, v5, v6] (.int y :: .long lx :: st) A Q ↔ XX d 71 52 [v0, v1, v2, v3, v4, v5, v6] (.long (lx <<< (y.toInt64 &&& 63)) :: st) A Q := c_stk i_71_51 rfl
theorem q_71_52 : XX d 71 52 [some (.ref a), v1, v2, v3, v4, v5, v6] st A Q ↔ XX d 71 53 [some (.ref a), v1, v2, v3, v4, v5, v6] (.ref a :: st) A Q := c_lcl i_71_52 rfl rfl
theorem q_71_53 : XX d 71 53 [some (.ref a), v1, v2, v3, v4, v5, v6] st A Q ↔ XX d 71 54 [some (.ref a), v1, v2, v3, v4, v5, v6] (.ref a :: st) A Q := c_lcl i_71_53 rfl rfl
theorem q_71_54 : XX d 71 54 [v0, v1, v2, v3, v4, v5, v6] (.ref a :: st) (mk S I L R G) Q ↔ S a = some (.inr 8) ∧ XX d 71 57 [v0, v1, v2, v3, v4, v5, v6] (.int (I a 7) :: st) (mk S I L R G) Q := r_gf i_71_54 rfl (by decide) rfl
theorem q_71_57 : XX d 71 57 [v0, v1, v2, v3, v4, v5, some (.int x)] st A Q ↔ XX d 71 59 [v0, v1, v2, v3, v4, v5, some (.int x)] (.int x :: st) A Q := c_lcl i_71_57 rfl rfl
theorem q_71_59 : XX d 71 59 [v0, v1, v2, v3, v4, v5, v6] (.int y :: .int x :: st) A Q ↔ XX d 71 60 [v0, v1, v2, v3, v4, v5, v6] (.int (x + y) :: st) A Q := c_stk i_71_59 rfl
theorem q_71_60 : XX (d + 1) 71 60 [v0, v1, v2, v3, v4, v5, v6] [.int x1, .ref a0, .long l2] (mk S I L R G) Q ↔ S a0 = some (.inr 8) ∧ XC d 78 [.ref a0, .int x1] (mk S I L R G) (XK (d + 1) 71 60 [v0, v1, v2, v3, v4, v5, v6] [.long l2] Q) := c_callV i_71_60 rfl rfl rfl rfl (Nat.le_of_ble_eq_true rfl) (Nat.le_of_ble_eq_true rfl) rfl
theorem q_71_63 : XX d 71 63 [v0, v1, v2, v3, v4, v5, v6] (.int x :: st) A Q ↔ XX d 71 64 [v0, v1, v2, v3, v4, v5, v6] (.long x.toInt64 :: st) A Q := c_stk i_71_63 rfl
theorem q_71_64 : XX d 71 64 [v0, v1, v2, v3, v4, v5, v6] (.long ly :: .long lx :: st) A Q ↔ XX d 71 65 [v0, v1, v2, v3, v4, v5, v6] (.long (lx ||| ly) :: st) A Q := c_stk i_71_64 rfl
theorem q_71_65 : XX d 71 65 [v0, v1, some (.int z), v3, v4, v5, v6] (.long lx :: st) A Q ↔ XX d 71 66 [v0, v1, some (.int z), some (.long lx), none, v5, v6] st A Q := c_lcl i_71_65 rfl rfl
theorem q_71_66 : XX d 71 66 [v0, v1, v2, v3, v4, some (.int z), some (.int x)] st A Q ↔ XX d 71 69 [v0, v1, v2, v3, v4, some (.int z), some (.int (x + w (-1)))] st A Q := c_lcl i_71_66 rfl rfl
theorem q_71_69 : XX d 71 69 [v0, v1, v2, v3, v4, v5, v6] st A Q ↔ XX d 71 43 [v0, v1, v2, v3, v4, v5, v6] st A Q := c_go i_71_69 rfl rfl
theorem q_71_72 : XX d 71 72 [some (.ref a), v1, v2, v3, v4, v5, v6] st A Q ↔ XX d 71 73 [some (.ref a), v1, v2, v3, v4, v5, v6] (.ref a :: st) A Q := c_lcl i_71_72 rfl rfl
theorem q_71_73 : XX d 71 73 [v0, v1, v2, v3, v4, some (.int x), v6] st A Q ↔ XX d 71 75 [v0, v1, v2, v3, v4, some (.int x), v6] (.int x :: st) A Q := c_lcl i_71_73 rfl rfl
theorem q_71_75 : XX d 71 75 [v0, v1, v2, v3, v4, v5, v6] (.int x :: .ref a :: st) (mk S I L R G) Q ↔ S a = some (.inr 8) ∧ XX d 71 78 [v0, v1, v2, v3, v4, v5, v6] st (mk S (wr I a (up (I a) 7 x)) L R G) Q := r_pf i_71_75 rfl (by decide) rfl rfl rfl
theorem q_71_78 : XX d 71 78 [v0, v1, v2, v3, v4, v5, v6] st A Q ↔ XX d 71 124 [v0, v1, v2, v3, v4, v5, v6] st A Q := c_go i_71_78 rfl rfl
theorem q_71_81 : XX d 71 81 [some (.ref a), v1, v2, v3, v4, v5, v6] st A Q ↔ XX d 71 82 [some (.ref a), v1, v2, v3, v4, v5, v6] (.ref a :: st) A Q := c_lcl i_71_81 rfl rfl
theorem q_71_82 : XX d 71 82 [v0, v1, v2, v3, v4, v5, v6] (.ref a1 :: st) A Q ↔ XX d 71 83 [v0, v1, v2, v3, v4, v5, v6] (.ref a1 :: .ref a1 :: st) A Q := c_stk i_71_82 rfl
theorem q_71_83 : XX d 71 83 [v0, v1, v2, v3, v4, v5, v6] (.ref a :: st) (mk S I L R G) Q ↔ S a = some (.inr 8) ∧ XX d 71 86 [v0, v1, v2, v3, v4, v5, v6] (.int (I a 7) :: st) (mk S I L R G) Q := r_gf i_71_83 rfl (by decide) rfl
theorem q_71_86 : XX d 71 86 [v0, v1, v2, v3, v4, v5, v6] st A Q ↔ XX d 71 87 [v0, v1, v2, v3, v4, v5, v6] (.int (w 1) :: st) A Q := c_stk i_71_86 rfl
theorem q_71_87 : XX d 71 87 [v0, v1, v2, v3, v4, v5, v6] (.int y :: .int x :: st) A Q ↔ XX d 71 88 [v0, v1, v2, v3, v4, v5, v6] (.int (x + y) :: st) A Q := c_stk i_71_87 rfl
theorem q_71_88 : XX d 71 88 [v0, v1, v2, v3, v4, v5, v6] (.int x :: .ref a :: st) (mk S I L R G) Q ↔ S a = some (.inr 8) ∧ XX d 71 91 [v0, v1, v2, v3, v4, v5, v6] st (mk S (wr I a (up (I a) 7 x)) L R G) Q := r_pf i_71_88 rfl (by decide) rfl rfl rfl
theorem q_71_91 : XX d 71 91 [v0, some (.int x), v2, v3, v4, v5, v6] st A Q ↔ XX d 71 92 [v0, some (.int x), v2, v3, v4, v5, v6] (.int x :: st) A Q := c_lcl i_71_91 rfl rfl
theorem q_71_92 : XX d 71 92 [v0, v1, v2, v3, v4, v5, v6] st A Q ↔ XX d 71 94 [v0, v1, v2, v3, v4, v5, v6] (.int (w 6) :: st) A Q := c_stk i_71_92 rfl
theorem q_71_94 : XX d 71 94 [v0, v1, v2, v3, v4, v5, v6] (.int y :: .int x :: st) A Q ↔ if x = y then XX d 71 109 [v0, v1, v2, v3, v4, v5, v6] st A Q else XX d 71 97 [v0, v1, v2, v3, v4, v5, v6] st A Q := b_eq i_71_94 rfl rfl rfl
theorem q_71_97 : XX d 71 97 [some (.ref a), v1, v2, v3, v4, v5, v6] st A Q ↔ XX d 71 98 [some (.ref a), v1, v2, v3, v4, v5, v6] (.ref a :: st) A Q := c_lcl i_71_97 rfl rfl
theorem q_71_98 : XX d 71 98 [v0, v1, v2, v3, v4, v5, v6] st A Q ↔ XX d 71 99 [v0, v1, v2, v3, v4, v5, v6] (.int (w 1) :: st) A Q := c_stk i_71_98 rfl
theorem q_71_99 : XX d 71 99 [v0, v1, v2, v3, v4, v5, v6] st A Q ↔ XX d 71 101 [v0, v1, v2, v3, v4, v5, v6] (.int (w 999999) :: st) A Q := r_ldc i_71_99 rfl
theorem q_71_101 : XX (d + 1) 71 101 [v0, v1, v2, v3, v4, v5, v6] [.int x2, .int x1, .ref a0] (mk S I L R G) Q ↔ S a0 = some (.inr 8) ∧ XC d 73 [.ref a0, .int x1, .int x2] (mk S I L R G) (XK (d + 1) 71 101 [v0, v1, v2, v3, v4, v5, v6] [] Q) := c_callV i_71_101 rfl rfl rfl rfl (Nat.le_of_ble_eq_true rfl) (Nat.le_of_ble_eq_true rfl) rfl
theorem q_71_104 : XX d 71 104 [v0, v1, v2, v3, v4, v5, v6] (.int x :: st) A Q ↔ if x = w 0 then XX d 71 107 [v0, v1, v2, v3, v4, v5, v6] st A Q else XX d 71 109 [v0, v1, v2, v3, v4, v5, v6] st A Q := z_ne i_71_104 rfl rfl rfl
theorem q_71_107 : XX d 71 107 [v0, v1, v2, v3, v4, v5, v6] st A Q ↔ XX d 71 108 [v0, v1, v2, v3, v4, v5, v6] (.int (w 0) :: st) A Q := c_stk i_71_107 rfl
theorem q_71_108 : XX d 71 108 [v0, v1, v2, v3, v4, v5, v6] [.int x] A Q ↔ (x = w 0 ∨ x = w 1) ∧ Q (.inl (some (.int x))) A := e_retZ i_71_108 rfl
theorem q_71_109 : XX d 71 109 [v0, some (.int x), v2, v3, v4, v5, v6] st A Q ↔ XX d 71 110 [v0, some (.int x), v2, v3, v4, v5, v6] (.int x :: st) A Q := c_lcl i_71_109 rfl rfl
theorem q_71_110 : XX d 71 110 [v0, v1, v2, v3, v4, v5, v6] st A Q ↔ XX d 71 112 [v0, v1, v2, v3, v4, v5, v6] (.int (w 6) :: st) A Q := c_stk i_71_110 rfl
theorem q_71_112 : XX d 71 112 [v0, v1, v2, v3, v4, v5, v6] (.int y :: .int x :: st) A Q ↔ if x = y then XX d 71 115 [v0, v1, v2, v3, v4, v5, v6] st A Q else XX d 71 119 [v0, v1, v2, v3, v4, v5, v6] st A Q := b_ne i_71_112 rfl rfl rfl
theorem q_71_115 : XX d 71 115 [v0, v1, v2, v3, v4, v5, v6] st A Q ↔ XX d 71 116 [v0, v1, v2, v3, v4, v5, v6] (.int (w 0) :: st) A Q := c_stk i_71_115 rfl
theorem q_71_116 : XX d 71 116 [v0, v1, v2, v3, v4, v5, v6] st A Q ↔ XX d 71 123 [v0, v1, v2, v3, v4, v5, v6] st A Q := c_go i_71_116 rfl rfl
theorem q_71_119 : XX d 71 119 [some (.ref a), v1, v2, v3, v4, v5, v6] st A Q ↔ XX d 71 120 [some (.ref a), v1, v2, v3, v4, v5, v6] (.ref a :: st) A Q := c_lcl i_71_119 rfl rfl
theorem q_71_120 : XX d 71 120 [v0, v1, v2, v3, v4, v5, v6] (.ref a :: st) (mk S I L R G) Q ↔ S a = some (.inr 8) ∧ XX d 71 123 [v0, v1, v2, v3, v4, v5, v6] (.int (I a 8) :: st) (mk S I L R G) Q := r_gf i_71_120 rfl (by decide) rfl
theorem q_71_123 : XX d 71 123 [v0, some (.int z), v2, v3, v4, v5, v6] (.int x :: st) A Q ↔ XX d 71 124 [v0, some (.int z), some (.int x), v3, v4, v5, v6] st A Q := c_lcl i_71_123 rfl rfl
theorem q_71_124 : XX d 71 124 [some (.ref a), v1, v2, v3, v4, v5, v6] st A Q ↔ XX d 71 125 [some (.ref a), v1, v2, v3, v4, v5, v6] (.ref a :: st) A Q := c_lcl i_71_124 rfl rfl
theorem q_71_125 : XX d 71 125 [v0, v1, v2, v3, v4, v5, v6] (.ref a :: st) (mk S I L R G) Q ↔ S a = some (.inr 8) ∧ XX d 71 128 [v0, v1, v2, v3, v4, v5, v6] (.int (I a 10) :: st) (mk S I L R G) Q := r_gf i_71_125 rfl (by decide) rfl
theorem q_71_128 : XX d 71 128 [v0, v1, v2, v3, v4, v5, v6] (.int x :: st) A Q ↔ if x < w 0 then XX d 71 180 [v0, v1, v2, v3, v4, v5, v6] st A Q else XX d 71 131 [v0, v1, v2, v3, v4, v5, v6] st A Q := z_lt i_71_128 rfl rfl rfl
theorem q_71_131 : XX d 71 131 [some (.ref a), v1, v2, v3, v4, v5, v6] st A Q ↔ XX d 71 132 [some (.ref a), v1, v2, v3, v4, v5, v6] (.ref a :: st) A Q := c_lcl i_71_131 rfl rfl
theorem q_71_132 : XX d 71 132 [v0, v1, v2, v3, v4, v5, v6] (.ref a :: st) (mk S I L R G) Q ↔ S a = some (.inr 8) ∧ XX d 71 135 [v0, v1, v2, v3, v4, v5, v6] (.int (I a 10) :: st) (mk S I L R G) Q := r_gf i_71_132 rfl (by decide) rfl
theorem q_71_135 : XX d 71 135 [v0, v1, v2, v3, v4, v5, v6] st A Q ↔ XX d 71 137 [v0, v1, v2, v3, v4, v5, v6] (.int (w 6) :: st) A Q := c_stk i_71_135 rfl
theorem q_71_137 : XX d 71 137 [v0, v1, v2, v3, v4, v5, v6] (.int y :: .int x :: st) A Q ↔ if x < y then XX d 71 140 [v0, v1, v2, v3, v4, v5, v6] st A Q else XX d 71 180 [v0, v1, v2, v3, v4, v5, v6] st A Q := b_ge i_71_137 rfl rfl rfl
theorem q_71_140 : XX d 71 140 [some (.ref a), v1, v2, v3, v4, v5, v6] st A Q ↔ XX d 71 141 [some (.ref a), v1, v2, v3, v4, v5, v6] (.ref a :: st) A Q := c_lcl i_71_140 rfl rfl
theorem q_71_141 : XX d 71 141 [v0, v1, v2, v3, v4, v5, v6] (.ref a :: st) (mk S I L R G) Q ↔ S a = some (.inr 8) ∧ XX d 71 144 [v0, v1, v2, v3, v4, v5, v6] (.ref (a + 4) :: st) (mk S I L R G) Q := r_gf i_71_141 rfl (by decide) rfl
theorem q_71_144 : XX d 71 144 [some (.ref a), v1, v2, v3, v4, v5, v6] st A Q ↔ XX d 71 145 [some (.ref a), v1, v2, v3, v4, v5, v6] (.ref a :: st) A Q := c_lcl i_71_144 rfl rfl
theorem q_71_145 : XX d 71 145 [v0, v1, v2, v3, v4, v5, v6] (.ref a :: st) (mk S I L R G) Q ↔ S a = some (.inr 8) ∧ XX d 71 148 [v0, v1, v2, v3, v4, v5, v6] (.int (I a 10) :: st) (mk S I L R G) Q := r_gf i_71_145 rfl (by decide) rfl
theorem q_71_148 : XX d 71 148 [v0, some (.int x), v2, v3, v4, v5, v6] st A Q ↔ XX d 71 149 [v0, some (.int x), v2, v3, v4, v5, v6] (.int x :: st) A Q := c_lcl i_71_148 rfl rfl
theorem q_71_149 : XX d 71 149 [v0, v1, v2, v3, v4, v5, v6] (.int y :: .int x :: .ref a :: st) (mk S I L R G) Q ↔ inA (S a) ok_0 x ∧ XX d 71 150 [v0, v1, v2, v3, v4, v5, v6] st (mk S (wr I a (up (I a) (ix x) y)) L R G) Q := r_ias i_71_149
theorem q_71_150 : XX d 71 150 [some (.ref a), v1, v2, v3, v4, v5, v6] st A Q ↔ XX d 71 151 [some (.ref a), v1, v2, v3, v4, v5, v6] (.ref a :: st) A Q := c_lcl i_71_150 rfl rfl
theorem q_71_151 : XX d 71 151 [v0, v1, v2, v3, v4, v5, v6] (.ref a :: st) (mk S I L R G) Q ↔ S a = some (.inr 8) ∧ XX d 71 154 [v0, v1, v2, v3, v4, v5, v6] (.ref (a + 5) :: st) (mk S I L R G) Q := r_gf i_71_151 rfl (by decide) rfl
theorem q_71_154 : XX d 71 154 [some (.ref a), v1, v2, v3, v4, v5, v6] st A Q ↔ XX d 71 155 [some (.ref a), v1, v2, v3, v4, v5, v6] (.ref a :: st) A Q := c_lcl i_71_154 rfl rfl
theorem q_71_155 : XX d 71 155 [v0, v1, v2, v3, v4, v5, v6] (.ref a :: st) (mk S I L R G) Q ↔ S a = some (.inr 8) ∧ XX d 71 158 [v0, v1, v2, v3, v4, v5, v6] (.int (I a 10) :: st) (mk S I L R G) Q := r_gf i_71_155 rfl (by decide) rfl
theorem q_71_158 : XX d 71 158 [v0, v1, some (.int x), v3, v4, v5, v6] st A Q ↔ XX d 71 159 [v0, v1, some (.int x), v3, v4, v5, v6] (.int x :: st) A Q := c_lcl i_71_158 rfl rfl
theorem q_71_159 : XX d 71 159 [v0, v1, v2, v3, v4, v5, v6] (.int y :: .int x :: .ref a :: st) (mk S I L R G) Q ↔ inA (S a) ok_0 x ∧ XX d 71 160 [v0, v1, v2, v3, v4, v5, v6] st (mk S (wr I a (up (I a) (ix x) y)) L R G) Q := r_ias i_71_159
theorem q_71_160 : XX d 71 160 [some (.ref a), v1, v2, v3, v4, v5, v6] st A Q ↔ XX d 71 161 [some (.ref a), v1, v2, v3, v4, v5, v6] (.ref a :: st) A Q := c_lcl i_71_160 rfl rfl
theorem q_71_161 : XX d 71 161 [v0, v1, v2, v3, v4, v5, v6] (.ref a :: st) (mk S I L R G) Q ↔ S a = some (.inr 8) ∧ XX d 71 164 [v0, v1, v2, v3, v4, v5, v6] (.ref (a + 6) :: st) (mk S I L R G) Q := r_gf i_71_161 rfl (by decide) rfl
theorem q_71_164 : XX d 71 164 [some (.ref a), v1, v2, v3, v4, v5, v6] st A Q ↔ XX d 71 165 [some (.ref a), v1, v2, v3, v4, v5, v6] (.ref a :: st) A Q := c_lcl i_71_164 rfl rfl
theorem q_71_165 : XX d 71 165 [v0, v1, v2, v3, v4, v5, v6] (.ref a :: st) (mk S I L R G) Q ↔ S a = some (.inr 8) ∧ XX d 71 168 [v0, v1, v2, v3, v4, v5, v6] (.int (I a 10) :: st) (mk S I L R G) Q := r_gf i_71_165 rfl (by decide) rfl
theorem q_71_168 : XX d 71 168 [v0, v1, v2, some (.long lx), v4, v5, v6] st A Q ↔ XX d 71 169 [v0, v1, v2, some (.long lx), v4, v5, v6] (.long lx :: st) A Q := c_lcl i_71_168 rfl rfl
theorem q_71_169 : XX d 71 169 [v0, v1, v2, v3, v4, v5, v6] (.long ly :: .int x :: .ref a :: st) (mk S I L R G) Q ↔ inA (S a) ok_l x ∧ XX d 71 170 [v0, v1, v2, v3, v4, v5, v6] st (mk S I (wr L a (up (L a) (ix x) ly)) R G) Q := r_las i_71_169
theorem q_71_170 : XX d 71 170 [some (.ref a), v1, v2, v3, v4, v5, v6] st A Q ↔ XX d 71 171 [some (.ref a), v1, v2, v3, v4, v5, v6] (.ref a :: st) A Q := c_lcl i_71_170 rfl rfl
theorem q_71_171 : XX d 71 171 [v0, v1, v2, v3, v4, v5, v6] (.ref a1 :: st) A Q ↔ XX d 71 172 [v0, v1, v2, v3, v4, v5, v6] (.ref a1 :: .ref a1 :: st) A Q := c_stk i_71_171 rfl
theorem q_71_172 : XX d 71 172 [v0, v1, v2, v3, v4, v5, v6] (.ref a :: st) (mk S I L R G) Q ↔ S a = some (.inr 8) ∧ XX d 71 175 [v0, v1, v2, v3, v4, v5, v6] (.int (I a 10) :: st) (mk S I L R G) Q := r_gf i_71_172 rfl (by decide) rfl
theorem q_71_175 : XX d 71 175 [v0, v1, v2, v3, v4, v5, v6] st A Q ↔ XX d 71 176 [v0, v1, v2, v3, v4, v5, v6] (.int (w 1) :: st) A Q := c_stk i_71_175 rfl
theorem q_71_176 : XX d 71 176 [v0, v1, v2, v3, v4, v5, v6] (.int y :: .int x :: st) A Q ↔ XX d 71 177 [v0, v1, v2, v3, v4, v5, v6] (.int (x + y) :: st) A Q := c_stk i_71_176 rfl
theorem q_71_177 : XX d 71 177 [v0, v1, v2, v3, v4, v5, v6] (.int x :: .ref a :: st) (mk S I L R G) Q ↔ S a = some (.inr 8) ∧ XX d 71 180 [v0, v1, v2, v3, v4, v5, v6] st (mk S (wr I a (up (I a) 10 x)) L R G) Q := r_pf i_71_177 rfl (by decide) rfl rfl rfl
theorem q_71_180 : XX d 71 180 [v0, v1, v2, v3, v4, v5, v6] st A Q ↔ XX d 71 181 [v0, v1, v2, v3, v4, v5, v6] (.int (w 1) :: st) A Q := c_stk i_71_180 rfl
theorem q_71_181 : XX d 71 181 [v0, v1, v2, v3, v4, v5, v6] [.int x] A Q ↔ (x = w 0 ∨ x = w 1) ∧ Q (.inl (some (.int x))) A := e_retZ i_71_181 rfl
theorem q_71_e : XC d 71 [.ref a0, .int x1] A Q ↔ XX d 71 0 [some (.ref a0), some (.int x1), none, none, none, none, none] [] A Q := Iff.rfl
theorem i_72_0 : t_ins 72 0 = some (.aload_n 0) := by decide +kernel
theorem i_72_1 : t_ins 72 1 = some (.invokevirtual 107) := by decide +kernel
theorem i_72_4 : t_ins 72 4 = some (.istore_n 1) := by decide +kernel
theorem i_72_5 : t_ins 72 5 = some (.iload_n 1) := by decide +kernel
theorem i_72_6 : t_ins 72 6 = some (.lookupswitch 71 #[(35, 62), (37, 60), (43, 66), (45, 64), (47, 58), (126, 68)]) := by decide +kernel
theorem i_72_64 : t_ins 72 64 = some (.iconst 1) := by decide +kernel
theorem i_72_65 : t_ins 72 65 = some (.ireturn) := by decide +kernel
theorem i_72_66 : t_ins 72 66 = some (.iconst 2) := by decide +kernel
theorem i_72_67 : t_ins 72 67 = some (.ireturn) := by decide +kernel
theorem i_72_68 : t_ins 72 68 = some (.iconst 3) := by decide +kernel
theorem i_72_69 : t_ins 72 69 = some (.ireturn) := by decide +kernel
theorem i_72_70 : t_ins 72 70 = some (.iconst 4) := by decide +kernel
theorem i_72_71 : t_ins 72 71 = some (.ireturn) := by decide +kernel
theorem i_72_72 : t_ins 72 72 = some (.iconst 5) := by decide +kernel
theorem i_72_73 : t_ins 72 73 = some (.ireturn) := by decide +kernel
theorem i_72_74 : t_ins 72 74 = some (.bipush 6) := by decide +kernel
theorem i_72_76 : t_ins 72 76 = some (.ireturn) := by decide +kernel
theorem i_72_77 : t_ins 72 77 = some (.iload_n 1) := by decide +kernel
theorem i_72_78 : t_ins 72 78 = some (.invokestatic 136) := by decide +kernel
theorem i_72_81 : t_ins 72 81 = some (.ifCond .eq 7) := by decide +kernel
theorem i_72_84 : t_ins 72 84 = some (.iconst 0) := by decide +kernel
theorem i_72_85 : t_ins 72 85 = some (.goto 4) := by decide +kernel
theorem i_72_88 : t_ins 72 88 = some (.iconst (-1)) := by decide +kernel
theorem i_72_89 : t_ins 72 89 = some (.ireturn) := by decide +kernel
theorem q_72_0 : XX d 72 0 [some (.ref a), v1] st A Q ↔ XX d 72 1 [some (.ref a), v1] (.ref a :: st) A Q := c_lcl i_72_0 rfl rfl
theorem q_72_1 : XX (d + 1) 72 1 [v0, v1] [.ref a0] (mk S I L R G) Q ↔ S a0 = some (.inr 8) ∧ XC d 77 [.ref a0] (mk S I L R G) (XK (d + 1) 72 1 [v0, v1] [] Q) := c_callV i_72_1 rfl rfl rfl rfl (Nat.le_of_ble_eq_true rfl) (Nat.le_of_ble_eq_true rfl) rfl
theorem q_72_4 : XX d 72 4 [some (.ref b), v1] (.int x :: st) A Q ↔ XX d 72 5 [some (.ref b), some (.int x)] st A Q := c_lcl i_72_4 rfl rfl
theorem q_72_5 : XX d 72 5 [v0, some (.int x)] st A Q ↔ XX d 72 6 [v0, some (.int x)] (.int x :: st) A Q := c_lcl i_72_5 rfl rfl
theorem q_72_6 : XX d 72 6 [v0, v1] (.int x :: st) A Q ↔ XX d 72 (swL [(35, 68), (37, 66), (43, 72), (45, 70), (47, 64), (126, 74)] 77 x.toInt) [v0, v1] st A Q := c_look i_72_6 rfl rfl rfl rfl
theorem q_72_64 : XX d 72 64 [v0, v1] st A Q ↔ XX d 72 65 [v0, v1] (.int (w 1) :: st) A Q := c_stk i_72_64 rfl
theorem q_72_65 : XX d 72 65 [v0, v1] [.int x] A Q ↔ Q (.inl (some (.int x))) A := e_retI i_72_65 rfl
theorem q_72_66 : XX d 72 66 [v0, v1] st A Q ↔ XX d 72 67 [v0, v1] (.int (w 2) :: st) A Q := c_stk i_72_66 rfl
theorem q_72_67 : XX d 72 67 [v0, v1] [.int x] A Q ↔ Q (.inl (some (.int x))) A := e_retI i_72_67 rfl
theorem q_72_68 : XX d 72 68 [v0, v1] st A Q ↔ XX d 72 69 [v0, v1] (.int (w 3) :: st) A Q := c_stk i_72_68 rfl
theorem q_72_69 : XX d 72 69 [v0, v1] [.int x] A Q ↔ Q (.inl (some (.int x))) A := e_retI i_72_69 rfl
theorem q_72_70 : XX d 72 70 [v0, v1] st A Q ↔ XX d 72 71 [v0, v1] (.int (w 4) :: st) A Q := c_stk i_72_70 rfl
theorem q_72_71 : XX d 72 71 [v0, v1] [.int x] A Q ↔ Q (.inl (some (.int x))) A := e_retI i_72_71 rfl
theorem q_72_72 : XX d 72 72 [v0, v1] st A Q ↔ XX d 72 73 [v0, v1] (.int (w 5) :: st) A Q := c_stk i_72_72 rfl
theorem q_72_73 : XX d 72 73 [v0, v1] [.int x] A Q ↔ Q (.inl (some (.int x))) A := e_retI i_72_73 rfl
theorem q_72_74 : XX d 72 74 [v0, v1] st A Q ↔ XX d 72 76 [v0, v1] (.int (w 6) :: st) A Q := c_stk i_72_74 rfl
theorem q_72_76 : XX d 72 76 [v0, v1] [.int x] A Q ↔ Q (.inl (some (.int x))) A := e_retI i_72_76 rfl
theorem q_72_77 : XX d 72 77 [v0, some (.int x)] st A Q ↔ XX d 72 78 [v0, some (.int x)] (.int x :: st) A Q := c_lcl i_72_77 rfl rfl
theorem q_72_78 : XX (d + 1) 72 78 [v0, v1] [.int x0] A Q ↔ XC d 148 [.int x0] A (XK (d + 1) 72 78 [v0, v1] [] Q) := c_callS i_72_78 rfl rfl rfl rfl (Nat.le_of_ble_eq_true rfl) (Nat.le_of_ble_eq_true rfl)
theorem q_72_81 : XX d 72 81 [v0, v1] (.int x :: st) A Q ↔ if x = w 0 then XX d 72 88 [v0, v1] st A Q else XX d 72 84 [v0, v1] st A Q := z_eq i_72_81 rfl rfl rfl
theorem q_72_84 : XX d 72 84 [v0, v1] st A Q ↔ XX d 72 85 [v0, v1] (.int (w 0) :: st) A Q := c_stk i_72_84 rfl
theorem q_72_85 : XX d 72 85 [v0, v1] st A Q ↔ XX d 72 89 [v0, v1] st A Q := c_go i_72_85 rfl rfl
theorem q_72_88 : XX d 72 88 [v0, v1] st A Q ↔ XX d 72 89 [v0, v1] (.int (w (-1)) :: st) A Q := c_stk i_72_88 rfl
theorem q_72_89 : XX d 72 89 [v0, v1] [.int x] A Q ↔ Q (.inl (some (.int x))) A := e_retI i_72_89 rfl
theorem q_72_e : XC d 72 [.ref a0] A Q ↔ XX d 72 0 [some (.ref a0), none] [] A Q := Iff.rfl
theorem i_73_0 : t_ins 73 0 = some (.aload_n 0) := by decide +kernel
theorem i_73_1 : t_ins 73 1 = some (.invokevirtual 79) := by decide +kernel
theorem i_73_4 : t_ins 73 4 = some (.aload_n 0) := by decide +kernel
theorem i_73_5 : t_ins 73 5 = some (.getfield 37) := by decide +kernel
theorem i_73_8 : t_ins 73 8 = some (.istore_n 3) := by decide +kernel
theorem i_73_9 : t_ins 73 9 = some (.lconst 0) := by decide +kernel
theorem i_73_10 : t_ins 73 10 = some (.lstore 4) := by decide +kernel
theorem i_73_12 : t_ins 73 12 = some (.aload_n 0) := by decide +kernel
theorem i_73_13 : t_ins 73 13 = some (.getfield 37) := by decide +kernel
theorem i_73_16 : t_ins 73 16 = some (.aload_n 0) := by decide +kernel
theorem i_73_17 : t_ins 73 17 = some (.getfield 34) := by decide +kernel
theorem i_73_20 : t_ins 73 20 = some (.if_icmp .ge 61) := by decide +kernel
theorem i_73_23 : t_ins 73 23 = some (.aload_n 0) := by decide +kernel
theorem i_73_24 : t_ins 73 24 = some (.aload_n 0) := by decide +kernel
theorem i_73_25 : t_ins 73 25 = some (.getfield 37) := by decide +kernel
theorem i_73_28 : t_ins 73 28 = some (.invokevirtual 132) := by decide +kernel
theorem i_73_31 : t_ins 73 31 = some (.invokestatic 139) := by decide +kernel
theorem i_73_34 : t_ins 73 34 = some (.ifCond .eq 47) := by decide +kernel
theorem i_73_37 : t_ins 73 37 = some (.lload 4) := by decide +kernel
theorem i_73_39 : t_ins 73 39 = some (.ldc2_w 142) := by decide +kernel
theorem i_73_42 : t_ins 73 42 = some (.lcmp) := by decide +kernel
theorem i_73_43 : t_ins 73 43 = some (.ifCond .gt 25) := by decide +kernel
theorem i_73_46 : t_ins 73 46 = some (.ldc2_w 144) := by decide +kernel
theorem i_73_49 : t_ins 73 49 = some (.lload 4) := by decide +kernel
theorem i_73_51 : t_ins 73 51 = some (.lmul) := by decide +kernel
theorem i_73_52 : t_ins 73 52 = some (.aload_n 0) := by decide +kernel
theorem i_73_53 : t_ins 73 53 = some (.aload_n 0) := by decide +kernel
theorem i_73_54 : t_ins 73 54 = some (.getfield 37) := by decide +kernel
theorem i_73_57 : t_ins 73 57 = some (.invokevirtual 132) := by decide +kernel
theorem i_73_60 : t_ins 73 60 = some (.i2l) := by decide +kernel
theorem i_73_61 : t_ins 73 61 = some (.ladd) := by decide +kernel
theorem i_73_62 : t_ins 73 62 = some (.ldc2_w 146) := by decide +kernel
theorem i_73_65 : t_ins 73 65 = some (.lsub) := by decide +kernel
theorem i_73_66 : t_ins 73 66 = some (.lstore 4) := by decide +kernel
theorem i_73_68 : t_ins 73 68 = some (.aload_n 0) := by decide +kernel
theorem i_73_69 : t_ins 73 69 = some (.dup) := by decide +kernel
theorem i_73_70 : t_ins 73 70 = some (.getfield 37) := by decide +kernel
theorem i_73_73 : t_ins 73 73 = some (.iconst 1) := by decide +kernel
theorem i_73_74 : t_ins 73 74 = some (.iadd) := by decide +kernel
theorem i_73_75 : t_ins 73 75 = some (.putfield 37) := by decide +kernel
theorem i_73_78 : t_ins 73 78 = some (.goto (-66)) := by decide +kernel
theorem i_73_81 : t_ins 73 81 = some (.aload_n 0) := by decide +kernel
theorem i_73_82 : t_ins 73 82 = some (.getfield 37) := by decide +kernel
theorem i_73_85 : t_ins 73 85 = some (.iload_n 3) := by decide +kernel
theorem i_73_86 : t_ins 73 86 = some (.if_icmp .ne 10) := by decide +kernel
theorem i_73_89 : t_ins 73 89 = some (.aload_n 0) := by decide +kernel
theorem i_73_90 : t_ins 73 90 = some (.iconst 1) := by decide +kernel
theorem i_73_91 : t_ins 73 91 = some (.iload_n 3) := by decide +kernel
theorem i_73_92 : t_ins 73 92 = some (.invokevirtual 100) := by decide +kernel
theorem i_73_95 : t_ins 73 95 = some (.ireturn) := by decide +kernel
theorem i_73_96 : t_ins 73 96 = some (.lload 4) := by decide +kernel
theorem i_73_98 : t_ins 73 98 = some (.iload_n 1) := by decide +kernel
theorem i_73_99 : t_ins 73 99 = some (.i2l) := by decide +kernel
theorem i_73_100 : t_ins 73 100 = some (.lcmp) := by decide +kernel
theorem i_73_101 : t_ins 73 101 = some (.ifCond .lt 11) := by decide +kernel
theorem i_73_104 : t_ins 73 104 = some (.lload 4) := by decide +kernel
theorem i_73_106 : t_ins 73 106 = some (.iload_n 2) := by decide +kernel
theorem i_73_107 : t_ins 73 107 = some (.i2l) := by decide +kernel
theorem i_73_108 : t_ins 73 108 = some (.lcmp) := by decide +kernel
theorem i_73_109 : t_ins 73 109 = some (.ifCond .le 10) := by decide +kernel
theorem i_73_112 : t_ins 73 112 = some (.aload_n 0) := by decide +kernel
theorem i_73_113 : t_ins 73 113 = some (.iconst 2) := by decide +kernel
theorem i_73_114 : t_ins 73 114 = some (.iload_n 3) := by decide +kernel
theorem i_73_115 : t_ins 73 115 = some (.invokevirtual 100) := by decide +kernel
theorem i_73_118 : t_ins 73 118 = some (.ireturn) := by decide +kernel
theorem i_73_119 : t_ins 73 119 = some (.aload_n 0) := by decide +kernel
theorem i_73_120 : t_ins 73 120 = some (.lload 4) := by decide +kernel
theorem i_73_122 : t_ins 73 122 = some (.l2i) := by decide +kernel
theorem i_73_123 : t_ins 73 123 = some (.putfield 40) := by decide +kernel
theorem i_73_126 : t_ins 73 126 = some (.iconst 1) := by decide +kernel
theorem i_73_127 : t_ins 73 127 = some (.ireturn) := by decide +kernel
theorem q_73_0 : XX d 73 0 [some (.ref a), v1, v2, v3, v4, v5] st A Q ↔ XX d 73 1 [some (.ref a), v1, v2, v3, v4, v5] (.ref a :: st) A Q := c_lcl i_73_0 rfl rfl
theorem q_73_1 : XX (d + 1) 73 1 [v0, v1, v2, v3, v4, v5] [.ref a0] (mk S I L R G) Q ↔ S a0 = some (.inr 8) ∧ XC d 76 [.ref a0] (mk S I L R G) (XK (d + 1) 73 1 [v0, v1, v2, v3, v4, v5] [] Q) := c_callV i_73_1 rfl rfl rfl rfl (Nat.le_of_ble_eq_true rfl) (Nat.le_of_ble_eq_true rfl) rfl
theorem q_73_4 : XX d 73 4 [some (.ref a), v1, v2, v3, v4, v5] st A Q ↔ XX d 73 5 [some (.ref a), v1, v2, v3, v4, v5] (.ref a :: st) A Q := c_lcl i_73_4 rfl rfl
theorem q_73_5 : XX d 73 5 [v0, v1, v2, v3, v4, v5] (.ref a :: st) (mk S I L R G) Q ↔ S a = some (.inr 8) ∧ XX d 73 8 [v0, v1, v2, v3, v4, v5] (.int (I a 7) :: st) (mk S I L R G) Q := r_gf i_73_5 rfl (by decide) rfl
theorem q_73_8 : XX d 73 8 [v0, v1, some (.int z), v3, v4, v5] (.int x :: st) A Q ↔ XX d 73 9 [v0, v1, some (.int z), some (.int x), v4, v5] st A Q := c_lcl i_73_8 rfl rfl
theorem q_73_9 : XX d 73 9 [v0, v1, v2, v3, v4, v5] st A Q ↔ XX d 73 10 [v0, v1, v2, v3, v4, v5] (.long (wl 0) :: st) A Q := c_stk i_73_9 rfl
theorem q_73_10 : XX d 73 10 [v0, v1, v2, some (.int z), v4, v5] (.long lx :: st) A Q ↔ XX d 73 12 [v0, v1, v2, some (.int z), some (.long lx), none] st A Q := c_lcl i_73_10 rfl rfl
theorem q_73_12 : XX d 73 12 [some (.ref a), v1, v2, v3, v4, v5] st A Q ↔ XX d 73 13 [some (.ref a), v1, v2, v3, v4, v5] (.ref a :: st) A Q := c_lcl i_73_12 rfl rfl
theorem q_73_13 : XX d 73 13 [v0, v1, v2, v3, v4, v5] (.ref a :: st) (mk S I L R G) Q ↔ S a = some (.inr 8) ∧ XX d 73 16 [v0, v1, v2, v3, v4, v5] (.int (I a 7) :: st) (mk S I L R G) Q := r_gf i_73_13 rfl (by decide) rfl
theorem q_73_16 : XX d 73 16 [some (.ref a), v1, v2, v3, v4, v5] st A Q ↔ XX d 73 17 [some (.ref a), v1, v2, v3, v4, v5] (.ref a :: st) A Q := c_lcl i_73_16 rfl rfl
theorem q_73_17 : XX d 73 17 [v0, v1, v2, v3, v4, v5] (.ref a :: st) (mk S I L R G) Q ↔ S a = some (.inr 8) ∧ XX d 73 20 [v0, v1, v2, v3, v4, v5] (.int (I a 6) :: st) (mk S I L R G) Q := r_gf i_73_17 rfl (by decide) rfl
theorem q_73_20 : XX d 73 20 [v0, v1, v2, v3, v4, v5] (.int y :: .int x :: st) A Q ↔ if x < y then XX d 73 23 [v0, v1, v2, v3, v4, v5] st A Q else XX d 73 81 [v0, v1, v2, v3, v4, v5] st A Q := b_ge i_73_20 rfl rfl rfl
theorem q_73_23 : XX d 73 23 [some (.ref a), v1, v2, v3, v4, v5] st A Q ↔ XX d 73 24 [some (.ref a), v1, v2, v3, v4, v5] (.ref a :: st) A Q := c_lcl i_73_23 rfl rfl
theorem q_73_24 : XX d 73 24 [some (.ref a), v1, v2, v3, v4, v5] st A Q ↔ XX d 73 25 [some (.ref a), v1, v2, v3, v4, v5] (.ref a :: st) A Q := c_lcl i_73_24 rfl rfl
theorem q_73_25 : XX d 73 25 [v0, v1, v2, v3, v4, v5] (.ref a :: st) (mk S I L R G) Q ↔ S a = some (.inr 8) ∧ XX d 73 28 [v0, v1, v2, v3, v4, v5] (.int (I a 7) :: st) (mk S I L R G) Q := r_gf i_73_25 rfl (by decide) rfl
theorem q_73_28 : XX (d + 1) 73 28 [v0, v1, v2, v3, v4, v5] [.int x1, .ref a0] (mk S I L R G) Q ↔ S a0 = some (.inr 8) ∧ XC d 78 [.ref a0, .int x1] (mk S I L R G) (XK (d + 1) 73 28 [v0, v1, v2, v3, v4, v5] [] Q) := c_callV i_73_28 rfl rfl rfl rfl (Nat.le_of_ble_eq_true rfl) (Nat.le_of_ble_eq_true rfl) rfl
theorem q_73_31 : XX (d + 1) 73 31 [v0, v1, v2, v3, v4, v5] [.int x0] A Q ↔ XC d 149 [.int x0] A (XK (d + 1) 73 31 [v0, v1, v2, v3, v4, v5] [] Q) := c_callS i_73_31 rfl rfl rfl rfl (Nat.le_of_ble_eq_true rfl) (Nat.le_of_ble_eq_true rfl)
theorem q_73_34 : XX d 73 34 [v0, v1, v2, v3, v4, v5] (.int x :: st) A Q ↔ if x = w 0 then XX d 73 81 [v0, v1, v2, v3, v4, v5] st A Q else XX d 73 37 [v0, v1, v2, v3, v4, v5] st A Q := z_eq i_73_34 rfl rfl rfl
theorem q_73_37 : XX d 73 37 [v0, v1, v2, v3, some (.long lx), v5] st A Q ↔ XX d 73 39 [v0, v1, v2, v3, some (.long lx), v5] (.long lx :: st) A Q := c_lcl i_73_37 rfl rfl
theorem q_73_39 : XX d 73 39 [v0, v1, v2, v3, v4, v5] st A Q ↔ XX d 73 42 [v0, v1, v2, v3, v4, v5] (.long (wl 999999999) :: st) A Q := r_ld2 i_73_39 rfl
theorem q_73_42 : XX d 73 42 [v0, v1, v2, v3, v4, v5] (.long ly :: .long lx :: st) A Q ↔ XX d 73 43 [v0, v1, v2, v3, v4, v5] (.int (lg_cmp lx ly) :: st) A Q := c_stk i_73_42 rfl
theorem q_73_43 : XX d 73 43 [v0, v1, v2, v3, v4, v5] (.int x :: st) A Q ↔ if w 0 < x then XX d 73 68 [v0, v1, v2, v3, v4, v5] st A Q else XX d 73 46 [v0, v1, v2, v3, v4, v5] st A Q := z_gt i_73_43 rfl rfl rfl
theorem q_73_46 : XX d 73 46 [v0, v1, v2, v3, v4, v5] st A Q ↔ XX d 73 49 [v0, v1, v2, v3, v4, v5] (.long (wl 10) :: st) A Q := r_ld2 i_73_46 rfl
theorem q_73_49 : XX d 73 49 [v0, v1, v2, v3, some (.long lx), v5] st A Q ↔ XX d 73 51 [v0, v1, v2, v3, some (.long lx), v5] (.long lx :: st) A Q := c_lcl i_73_49 rfl rfl
theorem q_73_51 : XX d 73 51 [v0, v1, v2, v3, v4, v5] (.long ly :: .long lx :: st) A Q ↔ XX d 73 52 [v0, v1, v2, v3, v4, v5] (.long (lx * ly) :: st) A Q := c_stk i_73_51 rfl
theorem q_73_52 : XX d 73 52 [some (.ref a), v1, v2, v3, v4, v5] st A Q ↔ XX d 73 53 [some (.ref a), v1, v2, v3, v4, v5] (.ref a :: st) A Q := c_lcl i_73_52 rfl rfl
theorem q_73_53 : XX d 73 53 [some (.ref a), v1, v2, v3, v4, v5] st A Q ↔ XX d 73 54 [some (.ref a), v1, v2, v3, v4, v5] (.ref a :: st) A Q := c_lcl i_73_53 rfl rfl
theorem q_73_54 : XX d 73 54 [v0, v1, v2, v3, v4, v5] (.ref a :: st) (mk S I L R G) Q ↔ S a = some (.inr 8) ∧ XX d 73 57 [v0, v1, v2, v3, v4, v5] (.int (I a 7) :: st) (mk S I L R G) Q := r_gf i_73_54 rfl (by decide) rfl
theorem q_73_57 : XX (d + 1) 73 57 [v0, v1, v2, v3, v4, v5] [.int x1, .ref a0, .long l2] (mk S I L R G) Q ↔ S a0 = some (.inr 8) ∧ XC d 78 [.ref a0, .int x1] (mk S I L R G) (XK (d + 1) 73 57 [v0, v1, v2, v3, v4, v5] [.long l2] Q) := c_callV i_73_57 rfl rfl rfl rfl (Nat.le_of_ble_eq_true rfl) (Nat.le_of_ble_eq_true rfl) rfl
theorem q_73_60 : XX d 73 60 [v0, v1, v2, v3, v4, v5] (.int x :: st) A Q ↔ XX d 73 61 [v0, v1, v2, v3, v4, v5] (.long x.toInt64 :: st) A Q := c_stk i_73_60 rfl
theorem q_73_61 : XX d 73 61 [v0, v1, v2, v3, v4, v5] (.long ly :: .long lx :: st) A Q ↔ XX d 73 62 [v0, v1, v2, v3, v4, v5] (.long (lx + ly) :: st) A Q := c_stk i_73_61 rfl
theorem q_73_62 : XX d 73 62 [v0, v1, v2, v3, v4, v5] st A Q ↔ XX d 73 65 [v0, v1, v2, v3, v4, v5] (.long (wl 48) :: st) A Q := r_ld2 i_73_62 rfl
theorem q_73_65 : XX d 73 65 [v0, v1, v2, v3, v4, v5] (.long ly :: .long lx :: st) A Q ↔ XX d 73 66 [v0, v1, v2, v3, v4, v5] (.long (lx - ly) :: st) A Q := c_stk i_73_65 rfl
theorem q_73_66 : XX d 73 66 [v0, v1, v2, some (.int z), v4, v5] (.long lx :: st) A Q ↔ XX d 73 68 [v0, v1, v2, some (.int z), some (.long lx), none] st A Q := c_lcl i_73_66 rfl rfl
theorem q_73_68 : XX d 73 68 [some (.ref a), v1, v2, v3, v4, v5] st A Q ↔ XX d 73 69 [some (.ref a), v1, v2, v3, v4, v5] (.ref a :: st) A Q := c_lcl i_73_68 rfl rfl
theorem q_73_69 : XX d 73 69 [v0, v1, v2, v3, v4, v5] (.ref a1 :: st) A Q ↔ XX d 73 70 [v0, v1, v2, v3, v4, v5] (.ref a1 :: .ref a1 :: st) A Q := c_stk i_73_69 rfl
theorem q_73_70 : XX d 73 70 [v0, v1, v2, v3, v4, v5] (.ref a :: st) (mk S I L R G) Q ↔ S a = some (.inr 8) ∧ XX d 73 73 [v0, v1, v2, v3, v4, v5] (.int (I a 7) :: st) (mk S I L R G) Q := r_gf i_73_70 rfl (by decide) rfl
theorem q_73_73 : XX d 73 73 [v0, v1, v2, v3, v4, v5] st A Q ↔ XX d 73 74 [v0, v1, v2, v3, v4, v5] (.int (w 1) :: st) A Q := c_stk i_73_73 rfl
theorem q_73_74 : XX d 73 74 [v0, v1, v2, v3, v4, v5] (.int y :: .int x :: st) A Q ↔ XX d 73 75 [v0, v1, v2, v3, v4, v5] (.int (x + y) :: st) A Q := c_stk i_73_74 rfl
theorem q_73_75 : XX d 73 75 [v0, v1, v2, v3, v4, v5] (.int x :: .ref a :: st) (mk S I L R G) Q ↔ S a = some (.inr 8) ∧ XX d 73 78 [v0, v1, v2, v3, v4, v5] st (mk S (wr I a (up (I a) 7 x)) L R G) Q := r_pf i_73_75 rfl (by decide) rfl rfl rfl
theorem q_73_78 : XX d 73 78 [v0, v1, v2, v3, v4, v5] st A Q ↔ XX d 73 12 [v0, v1, v2, v3, v4, v5] st A Q := c_go i_73_78 rfl rfl
theorem q_73_81 : XX d 73 81 [some (.ref a), v1, v2, v3, v4, v5] st A Q ↔ XX d 73 82 [some (.ref a), v1, v2, v3, v4, v5] (.ref a :: st) A Q := c_lcl i_73_81 rfl rfl
theorem q_73_82 : XX d 73 82 [v0, v1, v2, v3, v4, v5] (.ref a :: st) (mk S I L R G) Q ↔ S a = some (.inr 8) ∧ XX d 73 85 [v0, v1, v2, v3, v4, v5] (.int (I a 7) :: st) (mk S I L R G) Q := r_gf i_73_82 rfl (by decide) rfl
theorem q_73_85 : XX d 73 85 [v0, v1, v2, some (.int x), v4, v5] st A Q ↔ XX d 73 86 [v0, v1, v2, some (.int x), v4, v5] (.int x :: st) A Q := c_lcl i_73_85 rfl rfl
theorem q_73_86 : XX d 73 86 [v0, v1, v2, v3, v4, v5] (.int y :: .int x :: st) A Q ↔ if x = y then XX d 73 89 [v0, v1, v2, v3, v4, v5] st A Q else XX d 73 96 [v0, v1, v2, v3, v4, v5] st A Q := b_ne i_73_86 rfl rfl rfl
theorem q_73_89 : XX d 73 89 [some (.ref a), v1, v2, v3, v4, v5] st A Q ↔ XX d 73 90 [some (.ref a), v1, v2, v3, v4, v5] (.ref a :: st) A Q := c_lcl i_73_89 rfl rfl
theorem q_73_90 : XX d 73 90 [v0, v1, v2, v3, v4, v5] st A Q ↔ XX d 73 91 [v0, v1, v2, v3, v4, v5] (.int (w 1) :: st) A Q := c_stk i_73_90 rfl
theorem q_73_91 : XX d 73 91 [v0, v1, v2, some (.int x), v4, v5] st A Q ↔ XX d 73 92 [v0, v1, v2, some (.int x), v4, v5] (.int x :: st) A Q := c_lcl i_73_91 rfl rfl
theorem q_73_92 : XX (d + 1) 73 92 [v0, v1, v2, v3, v4, v5] [.int x2, .int x1, .ref a0] (mk S I L R G) Q ↔ S a0 = some (.inr 8) ∧ XC d 79 [.ref a0, .int x1, .int x2] (mk S I L R G) (XK (d + 1) 73 92 [v0, v1, v2, v3, v4, v5] [] Q) := c_callV i_73_92 rfl rfl rfl rfl (Nat.le_of_ble_eq_true rfl) (Nat.le_of_ble_eq_true rfl) rfl
theorem q_73_95 : XX d 73 95 [v0, v1, v2, v3, v4, v5] [.int x] A Q ↔ (x = w 0 ∨ x = w 1) ∧ Q (.inl (some (.int x))) A := e_retZ i_73_95 rfl
theorem q_73_96 : XX d 73 96 [v0, v1, v2, v3, some (.long lx), v5] st A Q ↔ XX d 73 98 [v0, v1, v2, v3, some (.long lx), v5] (.long lx :: st) A Q := c_lcl i_73_96 rfl rfl
theorem q_73_98 : XX d 73 98 [v0, some (.int x), v2, v3, v4, v5] st A Q ↔ XX d 73 99 [v0, some (.int x), v2, v3, v4, v5] (.int x :: st) A Q := c_lcl i_73_98 rfl rfl
theorem q_73_99 : XX d 73 99 [v0, v1, v2, v3, v4, v5] (.int x :: st) A Q ↔ XX d 73 100 [v0, v1, v2, v3, v4, v5] (.long x.toInt64 :: st) A Q := c_stk i_73_99 rfl
theorem q_73_100 : XX d 73 100 [v0, v1, v2, v3, v4, v5] (.long ly :: .long lx :: st) A Q ↔ XX d 73 101 [v0, v1, v2, v3, v4, v5] (.int (lg_cmp lx ly) :: st) A Q := c_stk i_73_100 rfl
theorem q_73_101 : XX d 73 101 [v0, v1, v2, v3, v4, v5] (.int x :: st) A Q ↔ if x < w 0 then XX d 73 112 [v0, v1, v2, v3, v4, v5] st A Q else XX d 73 104 [v0, v1, v2, v3, v4, v5] st A Q := z_lt i_73_101 rfl rfl rfl
theorem q_73_104 : XX d 73 104 [v0, v1, v2, v3, some (.long lx), v5] st A Q ↔ XX d 73 106 [v0, v1, v2, v3, some (.long lx), v5] (.long lx :: st) A Q := c_lcl i_73_104 rfl rfl
theorem q_73_106 : XX d 73 106 [v0, v1, some (.int x), v3, v4, v5] st A Q ↔ XX d 73 107 [v0, v1, some (.int x), v3, v4, v5] (.int x :: st) A Q := c_lcl i_73_106 rfl rfl
theorem q_73_107 : XX d 73 107 [v0, v1, v2, v3, v4, v5] (.int x :: st) A Q ↔ XX d 73 108 [v0, v1, v2, v3, v4, v5] (.long x.toInt64 :: st) A Q := c_stk i_73_107 rfl
theorem q_73_108 : XX d 73 108 [v0, v1, v2, v3, v4, v5] (.long ly :: .long lx :: st) A Q ↔ XX d 73 109 [v0, v1, v2, v3, v4, v5] (.int (lg_cmp lx ly) :: st) A Q := c_stk i_73_108 rfl
theorem q_73_109 : XX d 73 109 [v0, v1, v2, v3, v4, v5] (.int x :: st) A Q ↔ if w 0 < x then XX d 73 112 [v0, v1, v2, v3, v4, v5] st A Q else XX d 73 119 [v0, v1, v2, v3, v4, v5] st A Q := z_le i_73_109 rfl rfl rfl
theorem q_73_112 : XX d 73 112 [some (.ref a), v1, v2, v3, v4, v5] st A Q ↔ XX d 73 113 [some (.ref a), v1, v2, v3, v4, v5] (.ref a :: st) A Q := c_lcl i_73_112 rfl rfl
theorem q_73_113 : XX d 73 113 [v0, v1, v2, v3, v4, v5] st A Q ↔ XX d 73 114 [v0, v1, v2, v3, v4, v5] (.int (w 2) :: st) A Q := c_stk i_73_113 rfl
theorem q_73_114 : XX d 73 114 [v0, v1, v2, some (.int x), v4, v5] st A Q ↔ XX d 73 115 [v0, v1, v2, some (.int x), v4, v5] (.int x :: st) A Q := c_lcl i_73_114 rfl rfl
theorem q_73_115 : XX (d + 1) 73 115 [v0, v1, v2, v3, v4, v5] [.int x2, .int x1, .ref a0] (mk S I L R G) Q ↔ S a0 = some (.inr 8) ∧ XC d 79 [.ref a0, .int x1, .int x2] (mk S I L R G) (XK (d + 1) 73 115 [v0, v1, v2, v3, v4, v5] [] Q) := c_callV i_73_115 rfl rfl rfl rfl (Nat.le_of_ble_eq_true rfl) (Nat.le_of_ble_eq_true rfl) rfl
theorem q_73_118 : XX d 73 118 [v0, v1, v2, v3, v4, v5] [.int x] A Q ↔ (x = w 0 ∨ x = w 1) ∧ Q (.inl (some (.int x))) A := e_retZ i_73_118 rfl
theorem q_73_119 : XX d 73 119 [some (.ref a), v1, v2, v3, v4, v5] st A Q ↔ XX d 73 120 [some (.ref a), v1, v2, v3, v4, v5] (.ref a :: st) A Q := c_lcl i_73_119 rfl rfl
theorem q_73_120 : XX d 73 120 [v0, v1, v2, v3, some (.long lx), v5] st A Q ↔ XX d 73 122 [v0, v1, v2, v3, some (.long lx), v5] (.long lx :: st) A Q := c_lcl i_73_120 rfl rfl
theorem q_73_122 : XX d 73 122 [v0, v1, v2, v3, v4, v5] (.long lx :: st) A Q ↔ XX d 73 123 [v0, v1, v2, v3, v4, v5] (.int lx.toInt32 :: st) A Q := c_stk i_73_122 rfl
theorem q_73_123 : XX d 73 123 [v0, v1, v2, v3, v4, v5] (.int x :: .ref a :: st) (mk S I L R G) Q ↔ S a = some (.inr 8) ∧ XX d 73 126 [v0, v1, v2, v3, v4, v5] st (mk S (wr I a (up (I a) 8 x)) L R G) Q := r_pf i_73_123 rfl (by decide) rfl rfl rfl
theorem q_73_126 : XX d 73 126 [v0, v1, v2, v3, v4, v5] st A Q ↔ XX d 73 127 [v0, v1, v2, v3, v4, v5] (.int (w 1) :: st) A Q := c_stk i_73_126 rfl
theorem q_73_127 : XX d 73 127 [v0, v1, v2, v3, v4, v5] [.int x] A Q ↔ (x = w 0 ∨ x = w 1) ∧ Q (.inl (some (.int x))) A := e_retZ i_73_127 rfl
theorem q_73_e : XC d 73 [.ref a0, .int x1, .int x2] A Q ↔ XX d 73 0 [some (.ref a0), some (.int x1), some (.int x2), none, none, none] [] A Q := Iff.rfl
theorem i_74_0 : t_ins 74 0 = some (.aload_n 0) := by decide +kernel
theorem i_74_1 : t_ins 74 1 = some (.invokevirtual 79) := by decide +kernel
theorem i_74_4 : t_ins 74 4 = some (.aload_n 0) := by decide +kernel
theorem i_74_5 : t_ins 74 5 = some (.invokevirtual 129) := by decide +kernel
theorem i_74_8 : t_ins 74 8 = some (.istore_n 2) := by decide +kernel
theorem i_74_9 : t_ins 74 9 = some (.iload_n 2) := by decide +kernel
theorem i_74_10 : t_ins 74 10 = some (.aload_n 0) := by decide +kernel
theorem i_74_11 : t_ins 74 11 = some (.getfield 37) := by decide +kernel
theorem i_74_14 : t_ins 74 14 = some (.isub) := by decide +kernel
theorem i_74_15 : t_ins 74 15 = some (.aload_n 1) := by decide +kernel
theorem i_74_16 : t_ins 74 16 = some (.invokevirtual 148) := by decide +kernel
theorem i_74_19 : t_ins 74 19 = some (.if_icmp .eq 5) := by decide +kernel
theorem i_74_22 : t_ins 74 22 = some (.iconst 0) := by decide +kernel
theorem i_74_23 : t_ins 74 23 = some (.ireturn) := by decide +kernel
theorem i_74_24 : t_ins 74 24 = some (.iconst 0) := by decide +kernel
theorem i_74_25 : t_ins 74 25 = some (.istore_n 3) := by decide +kernel
theorem i_74_26 : t_ins 74 26 = some (.iload_n 3) := by decide +kernel
theorem i_74_27 : t_ins 74 27 = some (.aload_n 1) := by decide +kernel
theorem i_74_28 : t_ins 74 28 = some (.invokevirtual 148) := by decide +kernel
theorem i_74_31 : t_ins 74 31 = some (.if_icmp .ge 29) := by decide +kernel
theorem i_74_34 : t_ins 74 34 = some (.aload_n 0) := by decide +kernel
theorem i_74_35 : t_ins 74 35 = some (.aload_n 0) := by decide +kernel
theorem i_74_36 : t_ins 74 36 = some (.getfield 37) := by decide +kernel
theorem i_74_39 : t_ins 74 39 = some (.iload_n 3) := by decide +kernel
theorem i_74_40 : t_ins 74 40 = some (.iadd) := by decide +kernel
theorem i_74_41 : t_ins 74 41 = some (.invokevirtual 132) := by decide +kernel
theorem i_74_44 : t_ins 74 44 = some (.aload_n 1) := by decide +kernel
theorem i_74_45 : t_ins 74 45 = some (.iload_n 3) := by decide +kernel
theorem i_74_46 : t_ins 74 46 = some (.invokevirtual 152) := by decide +kernel
theorem i_74_49 : t_ins 74 49 = some (.if_icmp .eq 5) := by decide +kernel
theorem i_74_52 : t_ins 74 52 = some (.iconst 0) := by decide +kernel
theorem i_74_53 : t_ins 74 53 = some (.ireturn) := by decide +kernel
theorem i_74_54 : t_ins 74 54 = some (.iinc 3 1) := by decide +kernel
theorem i_74_57 : t_ins 74 57 = some (.goto (-31)) := by decide +kernel
theorem i_74_60 : t_ins 74 60 = some (.aload_n 0) := by decide +kernel
theorem i_74_61 : t_ins 74 61 = some (.iload_n 2) := by decide +kernel
theorem i_74_62 : t_ins 74 62 = some (.putfield 37) := by decide +kernel
theorem i_74_65 : t_ins 74 65 = some (.iconst 1) := by decide +kernel
theorem i_74_66 : t_ins 74 66 = some (.ireturn) := by decide +kernel
theorem q_74_0 : XX d 74 0 [some (.ref a), v1, v2, v3] st A Q ↔ XX d 74 1 [some (.ref a), v1, v2, v3] (.ref a :: st) A Q := c_lcl i_74_0 rfl rfl
theorem q_74_1 : XX (d + 1) 74 1 [v0, v1, v2, v3] [.ref a0] (mk S I L R G) Q ↔ S a0 = some (.inr 8) ∧ XC d 76 [.ref a0] (mk S I L R G) (XK (d + 1) 74 1 [v0, v1, v2, v3] [] Q) := c_callV i_74_1 rfl rfl rfl rfl (Nat.le_of_ble_eq_true rfl) (Nat.le_of_ble_eq_true rfl) rfl
theorem q_74_4 : XX d 74 4 [some (.ref a), v1, v2, v3] st A Q ↔ XX d 74 5 [some (.ref a), v1, v2, v3] (.ref a :: st) A Q := c_lcl i_74_4 rfl rfl
theorem q_74_5 : XX (d + 1) 74 5 [v0, v1, v2, v3] [.ref a0] (mk S I L R G) Q ↔ S a0 = some (.inr 8) ∧ XC d 75 [.ref a0] (mk S I L R G) (XK (d + 1) 74 5 [v0, v1, v2, v3] [] Q) := c_callV i_74_5 rfl rfl rfl rfl (Nat.le_of_ble_eq_true rfl) (Nat.le_of_ble_eq_true rfl) rfl
theorem q_74_8 : XX d 74 8 [v0, some (.ref b), v2, v3] (.int x :: st) A Q ↔ XX d 74 9 [v0, some (.ref b), some (.int x), v3] st A Q := c_lcl i_74_8 rfl rfl
theorem q_74_9 : XX d 74 9 [v0, v1, some (.int x), v3] st A Q ↔ XX d 74 10 [v0, v1, some (.int x), v3] (.int x :: st) A Q := c_lcl i_74_9 rfl rfl
theorem q_74_10 : XX d 74 10 [some (.ref a), v1, v2, v3] st A Q ↔ XX d 74 11 [some (.ref a), v1, v2, v3] (.ref a :: st) A Q := c_lcl i_74_10 rfl rfl
theorem q_74_11 : XX d 74 11 [v0, v1, v2, v3] (.ref a :: st) (mk S I L R G) Q ↔ S a = some (.inr 8) ∧ XX d 74 14 [v0, v1, v2, v3] (.int (I a 7) :: st) (mk S I L R G) Q := r_gf i_74_11 rfl (by decide) rfl
theorem q_74_14 : XX d 74 14 [v0, v1, v2, v3] (.int y :: .int x :: st) A Q ↔ XX d 74 15 [v0, v1, v2, v3] (.int (x - y) :: st) A Q := c_stk i_74_14 rfl
theorem q_74_15 : XX d 74 15 [v0, some (.ref a), v2, v3] st A Q ↔ XX d 74 16 [v0, some (.ref a), v2, v3] (.ref a :: st) A Q := c_lcl i_74_15 rfl rfl
theorem q_74_16 : XX d 74 16 [v0, v1, v2, v3] [.ref a, .int x0] (mk S I L R G) Q ↔ strP (S a) (fun n => XX d 74 19 [v0, v1, v2, v3] [.int (Int32.ofNat n), .int x0] (mk S I L R G) Q) := r_sln i_74_16 rfl rfl (Nat.le_of_ble_eq_true rfl)
theorem q_74_19 : XX d 74 19 [v0, v1, v2, v3] (.int y :: .int x :: st) A Q ↔ if x = y then XX d 74 24 [v0, v1, v2, v3] st A Q else XX d 74 22 [v0, v1, v2, v3] st A Q := b_eq i_74_19 rfl rfl rfl
theorem q_74_22 : XX d 74 22 [v0, v1, v2, v3] st A Q ↔ XX d 74 23 [v0, v1, v2, v3] (.int (w 0) :: st) A Q := c_stk i_74_22 rfl
theorem q_74_23 : XX d 74 23 [v0, v1, v2, v3] [.int x] A Q ↔ (x = w 0 ∨ x = w 1) ∧ Q (.inl (some (.int x))) A := e_retZ i_74_23 rfl
theorem q_74_24 : XX d 74 24 [v0, v1, v2, v3] st A Q ↔ XX d 74 25 [v0, v1, v2, v3] (.int (w 0) :: st) A Q := c_stk i_74_24 rfl
theorem q_74_25 : XX d 74 25 [v0, v1, some (.int z), v3] (.int x :: st) A Q ↔ XX d 74 26 [v0, v1, some (.int z), some (.int x)] st A Q := c_lcl i_74_25 rfl rfl
theorem q_74_26 : XX d 74 26 [v0, v1, v2, some (.int x)] st A Q ↔ XX d 74 27 [v0, v1, v2, some (.int x)] (.int x :: st) A Q := c_lcl i_74_26 rfl rfl
theorem q_74_27 : XX d 74 27 [v0, some (.ref a), v2, v3] st A Q ↔ XX d 74 28 [v0, some (.ref a), v2, v3] (.ref a :: st) A Q := c_lcl i_74_27 rfl rfl
theorem q_74_28 : XX d 74 28 [v0, v1, v2, v3] [.ref a, .int x0] (mk S I L R G) Q ↔ strP (S a) (fun n => XX d 74 31 [v0, v1, v2, v3] [.int (Int32.ofNat n), .int x0] (mk S I L R G) Q) := r_sln i_74_28 rfl rfl (Nat.le_of_ble_eq_true rfl)
theorem q_74_31 : XX d 74 31 [v0, v1, v2, v3] (.int y :: .int x :: st) A Q ↔ if x < y then XX d 74 34 [v0, v1, v2, v3] st A Q else XX d 74 60 [v0, v1, v2, v3] st A Q := b_ge i_74_31 rfl rfl rfl
theorem q_74_34 : XX d 74 34 [some (.ref a), v1, v2, v3] st A Q ↔ XX d 74 35 [some (.ref a), v1, v2, v3] (.ref a :: st) A Q := c_lcl i_74_34 rfl rfl
theorem q_74_35 : XX d 74 35 [some (.ref a), v1, v2, v3] st A Q ↔ XX d 74 36 [some (.ref a), v1, v2, v3] (.ref a :: st) A Q := c_lcl i_74_35 rfl rfl
theorem q_74_36 : XX d 74 36 [v0, v1, v2, v3] (.ref a :: st) (mk S I L R G) Q ↔ S a = some (.inr 8) ∧ XX d 74 39 [v0, v1, v2, v3] (.int (I a 7) :: st) (mk S I L R G) Q := r_gf i_74_36 rfl (by decide) rfl
theorem q_74_39 : XX d 74 39 [v0, v1, v2, some (.int x)] st A Q ↔ XX d 74 40 [v0, v1, v2, some (.int x)] (.int x :: st) A Q := c_lcl i_74_39 rfl rfl
theorem q_74_40 : XX d 74 40 [v0, v1, v2, v3] (.int y :: .int x :: st) A Q ↔ XX d 74 41 [v0, v1, v2, v3] (.int (x + y) :: st) A Q := c_stk i_74_40 rfl
theorem q_74_41 : XX (d + 1) 74 41 [v0, v1, v2, v3] [.int x1, .ref a0] (mk S I L R G) Q ↔ S a0 = some (.inr 8) ∧ XC d 78 [.ref a0, .int x1] (mk S I L R G) (XK (d + 1) 74 41 [v0, v1, v2, v3] [] Q) := c_callV i_74_41 rfl rfl rfl rfl (Nat.le_of_ble_eq_true rfl) (Nat.le_of_ble_eq_true rfl) rfl
theorem q_74_44 : XX d 74 44 [v0, some (.ref a), v2, v3] st A Q ↔ XX d 74 45 [v0, some (.ref a), v2, v3] (.ref a :: st) A Q := c_lcl i_74_44 rfl rfl
theorem q_74_45 : XX d 74 45 [v0, v1, v2, some (.int x)] st A Q ↔ XX d 74 46 [v0, v1, v2, some (.int x)] (.int x :: st) A Q := c_lcl i_74_45 rfl rfl
theorem q_74_46 : XX d 74 46 [v0, v1, v2, v3] [.int x, .ref a, .int x0] (mk S I L R G) Q ↔ strP (S a) (fun n => x_in x n = true ∧ XX d 74 49 [v0, v1, v2, v3] [.int (I a (ix x)), .int x0] (mk S I L R G) Q) := r_sch i_74_46 rfl rfl (Nat.le_of_ble_eq_true rfl)
theorem q_74_49 : XX d 74 49 [v0, v1, v2, v3] (.int y :: .int x :: st) A Q ↔ if x = y then XX d 74 54 [v0, v1, v2, v3] st A Q else XX d 74 52 [v0, v1, v2, v3] st A Q := b_eq i_74_49 rfl rfl rfl
theorem q_74_52 : XX d 74 52 [v0, v1, v2, v3] st A Q ↔ XX d 74 53 [v0, v1, v2, v3] (.int (w 0) :: st) A Q := c_stk i_74_52 rfl
theorem q_74_53 : XX d 74 53 [v0, v1, v2, v3] [.int x] A Q ↔ (x = w 0 ∨ x = w 1) ∧ Q (.inl (some (.int x))) A := e_retZ i_74_53 rfl
theorem q_74_54 : XX d 74 54 [v0, v1, some (.int z), some (.int x)] st A Q ↔ XX d 74 57 [v0, v1, some (.int z), some (.int (x + w 1))] st A Q := c_lcl i_74_54 rfl rfl
theorem q_74_57 : XX d 74 57 [v0, v1, v2, v3] st A Q ↔ XX d 74 26 [v0, v1, v2, v3] st A Q := c_go i_74_57 rfl rfl
theorem q_74_60 : XX d 74 60 [some (.ref a), v1, v2, v3] st A Q ↔ XX d 74 61 [some (.ref a), v1, v2, v3] (.ref a :: st) A Q := c_lcl i_74_60 rfl rfl
theorem q_74_61 : XX d 74 61 [v0, v1, some (.int x), v3] st A Q ↔ XX d 74 62 [v0, v1, some (.int x), v3] (.int x :: st) A Q := c_lcl i_74_61 rfl rfl
theorem q_74_62 : XX d 74 62 [v0, v1, v2, v3] (.int x :: .ref a :: st) (mk S I L R G) Q ↔ S a = some (.inr 8) ∧ XX d 74 65 [v0, v1, v2, v3] st (mk S (wr I a (up (I a) 7 x)) L R G) Q := r_pf i_74_62 rfl (by decide) rfl rfl rfl
theorem q_74_65 : XX d 74 65 [v0, v1, v2, v3] st A Q ↔ XX d 74 66 [v0, v1, v2, v3] (.int (w 1) :: st) A Q := c_stk i_74_65 rfl
theorem q_74_66 : XX d 74 66 [v0, v1, v2, v3] [.int x] A Q ↔ (x = w 0 ∨ x = w 1) ∧ Q (.inl (some (.int x))) A := e_retZ i_74_66 rfl
theorem q_74_e : XC d 74 [.ref a0, .ref a1] A Q ↔ XX d 74 0 [some (.ref a0), some (.ref a1), none, none] [] A Q := Iff.rfl
theorem i_75_0 : t_ins 75 0 = some (.aload_n 0) := by decide +kernel
theorem i_75_1 : t_ins 75 1 = some (.getfield 37) := by decide +kernel
theorem i_75_4 : t_ins 75 4 = some (.istore_n 1) := by decide +kernel
theorem i_75_5 : t_ins 75 5 = some (.iload_n 1) := by decide +kernel
theorem i_75_6 : t_ins 75 6 = some (.aload_n 0) := by decide +kernel
theorem i_75_7 : t_ins 75 7 = some (.getfield 34) := by decide +kernel
theorem i_75_10 : t_ins 75 10 = some (.if_icmp .ge 20) := by decide +kernel
theorem i_75_13 : t_ins 75 13 = some (.aload_n 0) := by decide +kernel
theorem i_75_14 : t_ins 75 14 = some (.iload_n 1) := by decide +kernel
theorem i_75_15 : t_ins 75 15 = some (.invokevirtual 132) := by decide +kernel
theorem i_75_18 : t_ins 75 18 = some (.invokestatic 136) := by decide +kernel
theorem i_75_21 : t_ins 75 21 = some (.ifCond .eq 9) := by decide +kernel
theorem i_75_24 : t_ins 75 24 = some (.iinc 1 1) := by decide +kernel
theorem i_75_27 : t_ins 75 27 = some (.goto (-22)) := by decide +kernel
theorem i_75_30 : t_ins 75 30 = some (.iload_n 1) := by decide +kernel
theorem i_75_31 : t_ins 75 31 = some (.ireturn) := by decide +kernel
theorem q_75_0 : XX d 75 0 [some (.ref a), v1] st A Q ↔ XX d 75 1 [some (.ref a), v1] (.ref a :: st) A Q := c_lcl i_75_0 rfl rfl
theorem q_75_1 : XX d 75 1 [v0, v1] (.ref a :: st) (mk S I L R G) Q ↔ S a = some (.inr 8) ∧ XX d 75 4 [v0, v1] (.int (I a 7) :: st) (mk S I L R G) Q := r_gf i_75_1 rfl (by decide) rfl
theorem q_75_4 : XX d 75 4 [some (.ref b), v1] (.int x :: st) A Q ↔ XX d 75 5 [some (.ref b), some (.int x)] st A Q := c_lcl i_75_4 rfl rfl
theorem q_75_5 : XX d 75 5 [v0, some (.int x)] st A Q ↔ XX d 75 6 [v0, some (.int x)] (.int x :: st) A Q := c_lcl i_75_5 rfl rfl
theorem q_75_6 : XX d 75 6 [some (.ref a), v1] st A Q ↔ XX d 75 7 [some (.ref a), v1] (.ref a :: st) A Q := c_lcl i_75_6 rfl rfl
theorem q_75_7 : XX d 75 7 [v0, v1] (.ref a :: st) (mk S I L R G) Q ↔ S a = some (.inr 8) ∧ XX d 75 10 [v0, v1] (.int (I a 6) :: st) (mk S I L R G) Q := r_gf i_75_7 rfl (by decide) rfl
theorem q_75_10 : XX d 75 10 [v0, v1] (.int y :: .int x :: st) A Q ↔ if x < y then XX d 75 13 [v0, v1] st A Q else XX d 75 30 [v0, v1] st A Q := b_ge i_75_10 rfl rfl rfl
theorem q_75_13 : XX d 75 13 [some (.ref a), v1] st A Q ↔ XX d 75 14 [some (.ref a), v1] (.ref a :: st) A Q := c_lcl i_75_13 rfl rfl
theorem q_75_14 : XX d 75 14 [v0, some (.int x)] st A Q ↔ XX d 75 15 [v0, some (.int x)] (.int x :: st) A Q := c_lcl i_75_14 rfl rfl
theorem q_75_15 : XX (d + 1) 75 15 [v0, v1] [.int x1, .ref a0] (mk S I L R G) Q ↔ S a0 = some (.inr 8) ∧ XC d 78 [.ref a0, .int x1] (mk S I L R G) (XK (d + 1) 75 15 [v0, v1] [] Q) := c_callV i_75_15 rfl rfl rfl rfl (Nat.le_of_ble_eq_true rfl) (Nat.le_of_ble_eq_true rfl) rfl
theorem q_75_18 : XX (d + 1) 75 18 [v0, v1] [.int x0] A Q ↔ XC d 148 [.int x0] A (XK (d + 1) 75 18 [v0, v1] [] Q) := c_callS i_75_18 rfl rfl rfl rfl (Nat.le_of_ble_eq_true rfl) (Nat.le_of_ble_eq_true rfl)
theorem q_75_21 : XX d 75 21 [v0, v1] (.int x :: st) A Q ↔ if x = w 0 then XX d 75 30 [v0, v1] st A Q else XX d 75 24 [v0, v1] st A Q := z_eq i_75_21 rfl rfl rfl
theorem q_75_24 : XX d 75 24 [some (.ref b), some (.int x)] st A Q ↔ XX d 75 27 [some (.ref b), some (.int (x + w 1))] st A Q := c_lcl i_75_24 rfl rfl
theorem q_75_27 : XX d 75 27 [v0, v1] st A Q ↔ XX d 75 5 [v0, v1] st A Q := c_go i_75_27 rfl rfl
theorem q_75_30 : XX d 75 30 [v0, some (.int x)] st A Q ↔ XX d 75 31 [v0, some (.int x)] (.int x :: st) A Q := c_lcl i_75_30 rfl rfl
theorem q_75_31 : XX d 75 31 [v0, v1] [.int x] A Q ↔ Q (.inl (some (.int x))) A := e_retI i_75_31 rfl
theorem q_75_e : XC d 75 [.ref a0] A Q ↔ XX d 75 0 [some (.ref a0), none] [] A Q := Iff.rfl
theorem i_76_0 : t_ins 76 0 = some (.aload_n 0) := by decide +kernel
theorem i_76_1 : t_ins 76 1 = some (.getfield 37) := by decide +kernel
theorem i_76_4 : t_ins 76 4 = some (.ifCond .lt 53) := by decide +kernel
theorem i_76_7 : t_ins 76 7 = some (.aload_n 0) := by decide +kernel
theorem i_76_8 : t_ins 76 8 = some (.getfield 37) := by decide +kernel
theorem i_76_11 : t_ins 76 11 = some (.aload_n 0) := by decide +kernel
theorem i_76_12 : t_ins 76 12 = some (.getfield 34) := by decide +kernel
theorem i_76_15 : t_ins 76 15 = some (.if_icmp .ge 42) := by decide +kernel
theorem i_76_18 : t_ins 76 18 = some (.aload_n 0) := by decide +kernel
theorem i_76_19 : t_ins 76 19 = some (.getfield 37) := by decide +kernel
theorem i_76_22 : t_ins 76 22 = some (.aload_n 0) := by decide +kernel
theorem i_76_23 : t_ins 76 23 = some (.getfield 30) := by decide +kernel
theorem i_76_26 : t_ins 76 26 = some (.arraylength) := by decide +kernel
theorem i_76_27 : t_ins 76 27 = some (.if_icmp .ge 30) := by decide +kernel
theorem i_76_30 : t_ins 76 30 = some (.aload_n 0) := by decide +kernel
theorem i_76_31 : t_ins 76 31 = some (.getfield 30) := by decide +kernel
theorem i_76_34 : t_ins 76 34 = some (.aload_n 0) := by decide +kernel
theorem i_76_35 : t_ins 76 35 = some (.getfield 37) := by decide +kernel
theorem i_76_38 : t_ins 76 38 = some (.baload) := by decide +kernel
theorem i_76_39 : t_ins 76 39 = some (.bipush 32) := by decide +kernel
theorem i_76_41 : t_ins 76 41 = some (.if_icmp .ne 16) := by decide +kernel
theorem i_76_44 : t_ins 76 44 = some (.aload_n 0) := by decide +kernel
theorem i_76_45 : t_ins 76 45 = some (.dup) := by decide +kernel
theorem i_76_46 : t_ins 76 46 = some (.getfield 37) := by decide +kernel
theorem i_76_49 : t_ins 76 49 = some (.iconst 1) := by decide +kernel
theorem i_76_50 : t_ins 76 50 = some (.iadd) := by decide +kernel
theorem i_76_51 : t_ins 76 51 = some (.putfield 37) := by decide +kernel
theorem i_76_54 : t_ins 76 54 = some (.goto (-54)) := by decide +kernel
theorem i_76_57 : t_ins 76 57 = some (.return_) := by decide +kernel
theorem q_76_0 : XX d 76 0 [some (.ref a)] st A Q ↔ XX d 76 1 [some (.ref a)] (.ref a :: st) A Q := c_lcl i_76_0 rfl rfl
theorem q_76_1 : XX d 76 1 [v0] (.ref a :: st) (mk S I L R G) Q ↔ S a = some (.inr 8) ∧ XX d 76 4 [v0] (.int (I a 7) :: st) (mk S I L R G) Q := r_gf i_76_1 rfl (by decide) rfl
theorem q_76_4 : XX d 76 4 [v0] (.int x :: st) A Q ↔ if x < w 0 then XX d 76 57 [v0] st A Q else XX d 76 7 [v0] st A Q := z_lt i_76_4 rfl rfl rfl
theorem q_76_7 : XX d 76 7 [some (.ref a)] st A Q ↔ XX d 76 8 [some (.ref a)] (.ref a :: st) A Q := c_lcl i_76_7 rfl rfl
theorem q_76_8 : XX d 76 8 [v0] (.ref a :: st) (mk S I L R G) Q ↔ S a = some (.inr 8) ∧ XX d 76 11 [v0] (.int (I a 7) :: st) (mk S I L R G) Q := r_gf i_76_8 rfl (by decide) rfl
theorem q_76_11 : XX d 76 11 [some (.ref a)] st A Q ↔ XX d 76 12 [some (.ref a)] (.ref a :: st) A Q := c_lcl i_76_11 rfl rfl
theorem q_76_12 : XX d 76 12 [v0] (.ref a :: st) (mk S I L R G) Q ↔ S a = some (.inr 8) ∧ XX d 76 15 [v0] (.int (I a 6) :: st) (mk S I L R G) Q := r_gf i_76_12 rfl (by decide) rfl
theorem q_76_15 : XX d 76 15 [v0] (.int y :: .int x :: st) A Q ↔ if x < y then XX d 76 18 [v0] st A Q else XX d 76 57 [v0] st A Q := b_ge i_76_15 rfl rfl rfl
theorem q_76_18 : XX d 76 18 [some (.ref a)] st A Q ↔ XX d 76 19 [some (.ref a)] (.ref a :: st) A Q := c_lcl i_76_18 rfl rfl
theorem q_76_19 : XX d 76 19 [v0] (.ref a :: st) (mk S I L R G) Q ↔ S a = some (.inr 8) ∧ XX d 76 22 [v0] (.int (I a 7) :: st) (mk S I L R G) Q := r_gf i_76_19 rfl (by decide) rfl
theorem q_76_22 : XX d 76 22 [some (.ref a)] st A Q ↔ XX d 76 23 [some (.ref a)] (.ref a :: st) A Q := c_lcl i_76_22 rfl rfl
theorem q_76_23 : XX d 76 23 [v0] (.ref a :: st) (mk S I L R G) Q ↔ S a = some (.inr 8) ∧ XX d 76 26 [v0] (va_rf (R a 5) :: st) (mk S I L R G) Q := r_gf i_76_23 rfl (by decide) rfl
theorem q_76_26 : XX d 76 26 [v0] (.ref a :: st) (mk S I L R G) Q ↔ alP (S a) (fun n => XX d 76 27 [v0] (.int n :: st) (mk S I L R G) Q) := r_al i_76_26
theorem q_76_27 : XX d 76 27 [v0] (.int y :: .int x :: st) A Q ↔ if x < y then XX d 76 30 [v0] st A Q else XX d 76 57 [v0] st A Q := b_ge i_76_27 rfl rfl rfl
theorem q_76_30 : XX d 76 30 [some (.ref a)] st A Q ↔ XX d 76 31 [some (.ref a)] (.ref a :: st) A Q := c_lcl i_76_30 rfl rfl
theorem q_76_31 : XX d 76 31 [v0] (.ref a :: st) (mk S I L R G) Q ↔ S a = some (.inr 8) ∧ XX d 76 34 [v0] (va_rf (R a 5) :: st) (mk S I L R G) Q := r_gf i_76_31 rfl (by decide) rfl
theorem q_76_34 : XX d 76 34 [some (.ref a)] st A Q ↔ XX d 76 35 [some (.ref a)] (.ref a :: st) A Q := c_lcl i_76_34 rfl rfl
theorem q_76_35 : XX d 76 35 [v0] (.ref a :: st) (mk S I L R G) Q ↔ S a = some (.inr 8) ∧ XX d 76 38 [v0] (.int (I a 7) :: st) (mk S I L R G) Q := r_gf i_76_35 rfl (by decide) rfl
theorem q_76_38 : XX d 76 38 [v0] (.int x :: .ref a :: st) (mk S I L R G) Q ↔ inA (S a) ok_b x ∧ XX d 76 39 [v0] (.int (I a (ix x)) :: st) (mk S I L R G) Q := r_ba i_76_38
theorem q_76_39 : XX d 76 39 [v0] st A Q ↔ XX d 76 41 [v0] (.int (w 32) :: st) A Q := c_stk i_76_39 rfl
theorem q_76_41 : XX d 76 41 [v0] (.int y :: .int x :: st) A Q ↔ if x = y then XX d 76 44 [v0] st A Q else XX d 76 57 [v0] st A Q := b_ne i_76_41 rfl rfl rfl
theorem q_76_44 : XX d 76 44 [some (.ref a)] st A Q ↔ XX d 76 45 [some (.ref a)] (.ref a :: st) A Q := c_lcl i_76_44 rfl rfl
theorem q_76_45 : XX d 76 45 [v0] (.ref a1 :: st) A Q ↔ XX d 76 46 [v0] (.ref a1 :: .ref a1 :: st) A Q := c_stk i_76_45 rfl
theorem q_76_46 : XX d 76 46 [v0] (.ref a :: st) (mk S I L R G) Q ↔ S a = some (.inr 8) ∧ XX d 76 49 [v0] (.int (I a 7) :: st) (mk S I L R G) Q := r_gf i_76_46 rfl (by decide) rfl
theorem q_76_49 : XX d 76 49 [v0] st A Q ↔ XX d 76 50 [v0] (.int (w 1) :: st) A Q := c_stk i_76_49 rfl
theorem q_76_50 : XX d 76 50 [v0] (.int y :: .int x :: st) A Q ↔ XX d 76 51 [v0] (.int (x + y) :: st) A Q := c_stk i_76_50 rfl
theorem q_76_51 : XX d 76 51 [v0] (.int x :: .ref a :: st) (mk S I L R G) Q ↔ S a = some (.inr 8) ∧ XX d 76 54 [v0] st (mk S (wr I a (up (I a) 7 x)) L R G) Q := r_pf i_76_51 rfl (by decide) rfl rfl rfl
theorem q_76_54 : XX d 76 54 [v0] st A Q ↔ XX d 76 0 [v0] st A Q := c_go i_76_54 rfl rfl
theorem q_76_57 : XX d 76 57 [v0] [] A Q ↔ Q (.inl none) A := e_retN i_76_57 rfl
theorem q_76_e : XC d 76 [.ref a0] A Q ↔ XX d 76 0 [some (.ref a0)] [] A Q := Iff.rfl
theorem i_77_0 : t_ins 77 0 = some (.aload_n 0) := by decide +kernel
theorem i_77_1 : t_ins 77 1 = some (.getfield 37) := by decide +kernel
theorem i_77_4 : t_ins 77 4 = some (.aload_n 0) := by decide +kernel
theorem i_77_5 : t_ins 77 5 = some (.getfield 34) := by decide +kernel
theorem i_77_8 : t_ins 77 8 = some (.if_icmp .ge 14) := by decide +kernel
theorem i_77_11 : t_ins 77 11 = some (.aload_n 0) := by decide +kernel
theorem i_77_12 : t_ins 77 12 = some (.aload_n 0) := by decide +kernel
theorem i_77_13 : t_ins 77 13 = some (.getfield 37) := by decide +kernel
theorem i_77_16 : t_ins 77 16 = some (.invokevirtual 132) := by decide +kernel
theorem i_77_19 : t_ins 77 19 = some (.goto 4) := by decide +kernel
theorem i_77_22 : t_ins 77 22 = some (.iconst (-1)) := by decide +kernel
theorem i_77_23 : t_ins 77 23 = some (.ireturn) := by decide +kernel
theorem q_77_0 : XX d 77 0 [some (.ref a)] st A Q ↔ XX d 77 1 [some (.ref a)] (.ref a :: st) A Q := c_lcl i_77_0 rfl rfl
theorem q_77_1 : XX d 77 1 [v0] (.ref a :: st) (mk S I L R G) Q ↔ S a = some (.inr 8) ∧ XX d 77 4 [v0] (.int (I a 7) :: st) (mk S I L R G) Q := r_gf i_77_1 rfl (by decide) rfl
theorem q_77_4 : XX d 77 4 [some (.ref a)] st A Q ↔ XX d 77 5 [some (.ref a)] (.ref a :: st) A Q := c_lcl i_77_4 rfl rfl
theorem q_77_5 : XX d 77 5 [v0] (.ref a :: st) (mk S I L R G) Q ↔ S a = some (.inr 8) ∧ XX d 77 8 [v0] (.int (I a 6) :: st) (mk S I L R G) Q := r_gf i_77_5 rfl (by decide) rfl
theorem q_77_8 : XX d 77 8 [v0] (.int y :: .int x :: st) A Q ↔ if x < y then XX d 77 11 [v0] st A Q else XX d 77 22 [v0] st A Q := b_ge i_77_8 rfl rfl rfl
theorem q_77_11 : XX d 77 11 [some (.ref a)] st A Q ↔ XX d 77 12 [some (.ref a)] (.ref a :: st) A Q := c_lcl i_77_11 rfl rfl
theorem q_77_12 : XX d 77 12 [some (.ref a)] st A Q ↔ XX d 77 13 [some (.ref a)] (.ref a :: st) A Q := c_lcl i_77_12 rfl rfl
theorem q_77_13 : XX d 77 13 [v0] (.ref a :: st) (mk S I L R G) Q ↔ S a = some (.inr 8) ∧ XX d 77 16 [v0] (.int (I a 7) :: st) (mk S I L R G) Q := r_gf i_77_13 rfl (by decide) rfl
theorem q_77_16 : XX (d + 1) 77 16 [v0] [.int x1, .ref a0] (mk S I L R G) Q ↔ S a0 = some (.inr 8) ∧ XC d 78 [.ref a0, .int x1] (mk S I L R G) (XK (d + 1) 77 16 [v0] [] Q) := c_callV i_77_16 rfl rfl rfl rfl (Nat.le_of_ble_eq_true rfl) (Nat.le_of_ble_eq_true rfl) rfl
theorem q_77_19 : XX d 77 19 [v0] st A Q ↔ XX d 77 23 [v0] st A Q := c_go i_77_19 rfl rfl
theorem q_77_22 : XX d 77 22 [v0] st A Q ↔ XX d 77 23 [v0] (.int (w (-1)) :: st) A Q := c_stk i_77_22 rfl
theorem q_77_23 : XX d 77 23 [v0] [.int x] A Q ↔ Q (.inl (some (.int x))) A := e_retI i_77_23 rfl
theorem q_77_e : XC d 77 [.ref a0] A Q ↔ XX d 77 0 [some (.ref a0)] [] A Q := Iff.rfl
theorem i_78_0 : t_ins 78 0 = some (.iload_n 1) := by decide +kernel
theorem i_78_1 : t_ins 78 1 = some (.ifCond .lt 25) := by decide +kernel
theorem i_78_4 : t_ins 78 4 = some (.iload_n 1) := by decide +kernel
theorem i_78_5 : t_ins 78 5 = some (.aload_n 0) := by decide +kernel
theorem i_78_6 : t_ins 78 6 = some (.getfield 30) := by decide +kernel
theorem i_78_9 : t_ins 78 9 = some (.arraylength) := by decide +kernel
theorem i_78_10 : t_ins 78 10 = some (.if_icmp .ge 16) := by decide +kernel
theorem i_78_13 : t_ins 78 13 = some (.aload_n 0) := by decide +kernel
theorem i_78_14 : t_ins 78 14 = some (.getfield 30) := by decide +kernel
theorem i_78_17 : t_ins 78 17 = some (.iload_n 1) := by decide +kernel
theorem i_78_18 : t_ins 78 18 = some (.baload) := by decide +kernel
theorem i_78_19 : t_ins 78 19 = some (.sipush 255) := by decide +kernel
theorem i_78_22 : t_ins 78 22 = some (.iand) := by decide +kernel
theorem i_78_23 : t_ins 78 23 = some (.goto 4) := by decide +kernel
theorem i_78_26 : t_ins 78 26 = some (.iconst (-1)) := by decide +kernel
theorem i_78_27 : t_ins 78 27 = some (.ireturn) := by decide +kernel
theorem q_78_0 : XX d 78 0 [v0, some (.int x)] st A Q ↔ XX d 78 1 [v0, some (.int x)] (.int x :: st) A Q := c_lcl i_78_0 rfl rfl
theorem q_78_1 : XX d 78 1 [v0, v1] (.int x :: st) A Q ↔ if x < w 0 then XX d 78 26 [v0, v1] st A Q else XX d 78 4 [v0, v1] st A Q := z_lt i_78_1 rfl rfl rfl
theorem q_78_4 : XX d 78 4 [v0, some (.int x)] st A Q ↔ XX d 78 5 [v0, some (.int x)] (.int x :: st) A Q := c_lcl i_78_4 rfl rfl
theorem q_78_5 : XX d 78 5 [some (.ref a), v1] st A Q ↔ XX d 78 6 [some (.ref a), v1] (.ref a :: st) A Q := c_lcl i_78_5 rfl rfl
theorem q_78_6 : XX d 78 6 [v0, v1] (.ref a :: st) (mk S I L R G) Q ↔ S a = some (.inr 8) ∧ XX d 78 9 [v0, v1] (va_rf (R a 5) :: st) (mk S I L R G) Q := r_gf i_78_6 rfl (by decide) rfl
theorem q_78_9 : XX d 78 9 [v0, v1] (.ref a :: st) (mk S I L R G) Q ↔ alP (S a) (fun n => XX d 78 10 [v0, v1] (.int n :: st) (mk S I L R G) Q) := r_al i_78_9
theorem q_78_10 : XX d 78 10 [v0, v1] (.int y :: .int x :: st) A Q ↔ if x < y then XX d 78 13 [v0, v1] st A Q else XX d 78 26 [v0, v1] st A Q := b_ge i_78_10 rfl rfl rfl
theorem q_78_13 : XX d 78 13 [some (.ref a), v1] st A Q ↔ XX d 78 14 [some (.ref a), v1] (.ref a :: st) A Q := c_lcl i_78_13 rfl rfl
theorem q_78_14 : XX d 78 14 [v0, v1] (.ref a :: st) (mk S I L R G) Q ↔ S a = some (.inr 8) ∧ XX d 78 17 [v0, v1] (va_rf (R a 5) :: st) (mk S I L R G) Q := r_gf i_78_14 rfl (by decide) rfl
theorem q_78_17 : XX d 78 17 [v0, some (.int x)] st A Q ↔ XX d 78 18 [v0, some (.int x)] (.int x :: st) A Q := c_lcl i_78_17 rfl rfl
theorem q_78_18 : XX d 78 18 [v0, v1] (.int x :: .ref a :: st) (mk S I L R G) Q ↔ inA (S a) ok_b x ∧ XX d 78 19 [v0, v1] (.int (I a (ix x)) :: st) (mk S I L R G) Q := r_ba i_78_18
theorem q_78_19 : XX d 78 19 [v0, v1] st A Q ↔ XX d 78 22 [v0, v1] (.int (w 255) :: st) A Q := c_stk i_78_19 rfl
theorem q_78_22 : XX d 78 22 [v0, v1] (.int y :: .int x :: st) A Q ↔ XX d 78 23 [v0, v1] (.int (x &&& y) :: st) A Q := c_stk i_78_22 rfl
theorem q_78_23 : XX d 78 23 [v0, v1] st A Q ↔ XX d 78 27 [v0, v1] st A Q := c_go i_78_23 rfl rfl
theorem q_78_26 : XX d 78 26 [v0, v1] st A Q ↔ XX d 78 27 [v0, v1] (.int (w (-1)) :: st) A Q := c_stk i_78_26 rfl
theorem q_78_27 : XX d 78 27 [v0, v1] [.int x] A Q ↔ Q (.inl (some (.int x))) A := e_retI i_78_27 rfl
theorem q_78_e : XC d 78 [.ref a0, .int x1] A Q ↔ XX d 78 0 [some (.ref a0), some (.int x1)] [] A Q := Iff.rfl
theorem i_79_0 : t_ins 79 0 = some (.aload_n 0) := by decide +kernel
theorem i_79_1 : t_ins 79 1 = some (.iload_n 1) := by decide +kernel
theorem i_79_2 : t_ins 79 2 = some (.putfield 24) := by decide +kernel
theorem i_79_5 : t_ins 79 5 = some (.aload_n 0) := by decide +kernel
theorem i_79_6 : t_ins 79 6 = some (.iload_n 2) := by decide +kernel
theorem i_79_7 : t_ins 79 7 = some (.putfield 27) := by decide +kernel
theorem i_79_10 : t_ins 79 10 = some (.iconst 0) := by decide +kernel
theorem i_79_11 : t_ins 79 11 = some (.ireturn) := by decide +kernel
theorem q_79_0 : XX d 79 0 [some (.ref a), v1, v2] st A Q ↔ XX d 79 1 [some (.ref a), v1, v2] (.ref a :: st) A Q := c_lcl i_79_0 rfl rfl
theorem q_79_1 : XX d 79 1 [v0, some (.int x), v2] st A Q ↔ XX d 79 2 [v0, some (.int x), v2] (.int x :: st) A Q := c_lcl i_79_1 rfl rfl
theorem q_79_2 : XX d 79 2 [v0, v1, v2] (.int x :: .ref a :: st) (mk S I L R G) Q ↔ S a = some (.inr 8) ∧ XX d 79 5 [v0, v1, v2] st (mk S (wr I a (up (I a) 3 x)) L R G) Q := r_pf i_79_2 rfl (by decide) rfl rfl rfl
theorem q_79_5 : XX d 79 5 [some (.ref a), v1, v2] st A Q ↔ XX d 79 6 [some (.ref a), v1, v2] (.ref a :: st) A Q := c_lcl i_79_5 rfl rfl
theorem q_79_6 : XX d 79 6 [v0, v1, some (.int x)] st A Q ↔ XX d 79 7 [v0, v1, some (.int x)] (.int x :: st) A Q := c_lcl i_79_6 rfl rfl
theorem q_79_7 : XX d 79 7 [v0, v1, v2] (.int x :: .ref a :: st) (mk S I L R G) Q ↔ S a = some (.inr 8) ∧ XX d 79 10 [v0, v1, v2] st (mk S (wr I a (up (I a) 4 x)) L R G) Q := r_pf i_79_7 rfl (by decide) rfl rfl rfl
theorem q_79_10 : XX d 79 10 [v0, v1, v2] st A Q ↔ XX d 79 11 [v0, v1, v2] (.int (w 0) :: st) A Q := c_stk i_79_10 rfl
theorem q_79_11 : XX d 79 11 [v0, v1, v2] [.int x] A Q ↔ (x = w 0 ∨ x = w 1) ∧ Q (.inl (some (.int x))) A := e_retZ i_79_11 rfl
theorem q_79_e : XC d 79 [.ref a0, .int x1, .int x2] A Q ↔ XX d 79 0 [some (.ref a0), some (.int x1), some (.int x2)] [] A Q := Iff.rfl
end

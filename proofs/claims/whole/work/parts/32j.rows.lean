/-! rows of methods 209 to 222 -/
section
variable {d : Nat} {Q : XO → Hp → Prop} {S : SH} {I : MI} {L : ML} {R : MR} {G : MG} {A : Hp} {st : List Value} {x y z x0 x1 x2 x3 x4 x5 x6 x7 x8 x9 : Int32} {lx ly l0 l1 l2 l3 l4 l5 l6 : Int64} {t kk jj a b a0 a1 a2 a3 a4 a5 a6 a7 a8 a9 : Nat} {o o0 o1 o2 o3 o4 : Option Nat} {v0 v1 v2 v3 v4 v5 v6 v7 v8 v9 v10 v11 v12 v13 v14 v15 v16 v17 v18 v19 v20 : Option Value}
theorem i_209_0 : t_ins 209 0 = some (.aload_n 0) := by decide +kernel
theorem i_209_1 : t_ins 209 1 = some (.iconst 0) := by decide +kernel
theorem i_209_2 : t_ins 209 2 = some (.putfield 121) := by decide +kernel
theorem i_209_5 : t_ins 209 5 = some (.aload_n 0) := by decide +kernel
theorem i_209_6 : t_ins 209 6 = some (.iload_n 1) := by decide +kernel
theorem i_209_7 : t_ins 209 7 = some (.invokestatic 245) := by decide +kernel
theorem i_209_10 : t_ins 209 10 = some (.ifCond .ne 7) := by decide +kernel
theorem i_209_13 : t_ins 209 13 = some (.iconst 1) := by decide +kernel
theorem i_209_14 : t_ins 209 14 = some (.goto 4) := by decide +kernel
theorem i_209_17 : t_ins 209 17 = some (.iconst 0) := by decide +kernel
theorem i_209_18 : t_ins 209 18 = some (.iconst 1) := by decide +kernel
theorem i_209_19 : t_ins 209 19 = some (.iconst 0) := by decide +kernel
theorem i_209_20 : t_ins 209 20 = some (.invokevirtual 234) := by decide +kernel
theorem i_209_23 : t_ins 209 23 = some (.ifCond .eq 5) := by decide +kernel
theorem i_209_26 : t_ins 209 26 = some (.iconst 0) := by decide +kernel
theorem i_209_27 : t_ins 209 27 = some (.ireturn) := by decide +kernel
theorem i_209_28 : t_ins 209 28 = some (.aload_n 0) := by decide +kernel
theorem i_209_29 : t_ins 209 29 = some (.iload_n 1) := by decide +kernel
theorem i_209_30 : t_ins 209 30 = some (.iload_n 2) := by decide +kernel
theorem i_209_31 : t_ins 209 31 = some (.invokevirtual 292) := by decide +kernel
theorem i_209_34 : t_ins 209 34 = some (.ifCond .eq 26) := by decide +kernel
theorem i_209_37 : t_ins 209 37 = some (.iload_n 3) := by decide +kernel
theorem i_209_38 : t_ins 209 38 = some (.iconst 0) := by decide +kernel
theorem i_209_39 : t_ins 209 39 = some (.aload_n 0) := by decide +kernel
theorem i_209_40 : t_ins 209 40 = some (.getfield 281) := by decide +kernel
theorem i_209_43 : t_ins 209 43 = some (.iconst 1) := by decide +kernel
theorem i_209_44 : t_ins 209 44 = some (.isub) := by decide +kernel
theorem i_209_45 : t_ins 209 45 = some (.invokestatic 230) := by decide +kernel
theorem i_209_48 : t_ins 209 48 = some (.ifCond .eq 12) := by decide +kernel
theorem i_209_51 : t_ins 209 51 = some (.aload_n 0) := by decide +kernel
theorem i_209_52 : t_ins 209 52 = some (.getfield 39) := by decide +kernel
theorem i_209_55 : t_ins 209 55 = some (.iload_n 3) := by decide +kernel
theorem i_209_56 : t_ins 209 56 = some (.baload) := by decide +kernel
theorem i_209_57 : t_ins 209 57 = some (.goto 4) := by decide +kernel
theorem i_209_60 : t_ins 209 60 = some (.iconst (-1)) := by decide +kernel
theorem i_209_61 : t_ins 209 61 = some (.ireturn) := by decide +kernel
theorem q_209_0 : XX d 209 0 [some (.ref a), v1, v2, v3] st A Q ↔ XX d 209 1 [some (.ref a), v1, v2, v3] (.ref a :: st) A Q := c_lcl i_209_0 rfl rfl
theorem q_209_1 : XX d 209 1 [v0, v1, v2, v3] st A Q ↔ XX d 209 2 [v0, v1, v2, v3] (.int (w 0) :: st) A Q := c_stk i_209_1 rfl
theorem q_209_2 : XX d 209 2 [v0, v1, v2, v3] (.int x :: .ref a :: st) (mk S I L R G) Q ↔ S a = some (.inr 12) ∧ XX d 209 5 [v0, v1, v2, v3] st (mk S (wr I a (up (I a) 0 x)) L R G) Q := r_pf i_209_2 rfl (by decide) rfl rfl rfl
theorem q_209_5 : XX d 209 5 [some (.ref a), v1, v2, v3] st A Q ↔ XX d 209 6 [some (.ref a), v1, v2, v3] (.ref a :: st) A Q := c_lcl i_209_5 rfl rfl
theorem q_209_6 : XX d 209 6 [v0, some (.int x), v2, v3] st A Q ↔ XX d 209 7 [v0, some (.int x), v2, v3] (.int x :: st) A Q := c_lcl i_209_6 rfl rfl
theorem q_209_7 : XX (d + 1) 209 7 [v0, v1, v2, v3] [.int x0, .ref a1] A Q ↔ XC d 182 [.int x0] A (XK (d + 1) 209 7 [v0, v1, v2, v3] [.ref a1] Q) := c_callS i_209_7 rfl rfl rfl rfl (Nat.le_of_ble_eq_true rfl) (Nat.le_of_ble_eq_true rfl)
theorem q_209_10 : XX d 209 10 [v0, v1, v2, v3] (.int x :: st) A Q ↔ if x = w 0 then XX d 209 13 [v0, v1, v2, v3] st A Q else XX d 209 17 [v0, v1, v2, v3] st A Q := z_ne i_209_10 rfl rfl rfl
theorem q_209_13 : XX d 209 13 [v0, v1, v2, v3] st A Q ↔ XX d 209 14 [v0, v1, v2, v3] (.int (w 1) :: st) A Q := c_stk i_209_13 rfl
theorem q_209_14 : XX d 209 14 [v0, v1, v2, v3] st A Q ↔ XX d 209 18 [v0, v1, v2, v3] st A Q := c_go i_209_14 rfl rfl
theorem q_209_17 : XX d 209 17 [v0, v1, v2, v3] st A Q ↔ XX d 209 18 [v0, v1, v2, v3] (.int (w 0) :: st) A Q := c_stk i_209_17 rfl
theorem q_209_18 : XX d 209 18 [v0, v1, v2, v3] st A Q ↔ XX d 209 19 [v0, v1, v2, v3] (.int (w 1) :: st) A Q := c_stk i_209_18 rfl
theorem q_209_19 : XX d 209 19 [v0, v1, v2, v3] st A Q ↔ XX d 209 20 [v0, v1, v2, v3] (.int (w 0) :: st) A Q := c_stk i_209_19 rfl
theorem q_209_20 : XX (d + 1) 209 20 [v0, v1, v2, v3] [.int x3, .int x2, .int x1, .ref a0] (mk S I L R G) Q ↔ S a0 = some (.inr 12) ∧ XC d 154 [.ref a0, .int x1, .int x2, .int x3] (mk S I L R G) (XK (d + 1) 209 20 [v0, v1, v2, v3] [] Q) := c_callV i_209_20 rfl rfl rfl rfl (Nat.le_of_ble_eq_true rfl) (Nat.le_of_ble_eq_true rfl) rfl
theorem q_209_23 : XX d 209 23 [v0, v1, v2, v3] (.int x :: st) A Q ↔ if x = w 0 then XX d 209 28 [v0, v1, v2, v3] st A Q else XX d 209 26 [v0, v1, v2, v3] st A Q := z_eq i_209_23 rfl rfl rfl
theorem q_209_26 : XX d 209 26 [v0, v1, v2, v3] st A Q ↔ XX d 209 27 [v0, v1, v2, v3] (.int (w 0) :: st) A Q := c_stk i_209_26 rfl
theorem q_209_27 : XX d 209 27 [v0, v1, v2, v3] [.int x] A Q ↔ Q (.inl (some (.int x))) A := e_retI i_209_27 rfl
theorem q_209_28 : XX d 209 28 [some (.ref a), v1, v2, v3] st A Q ↔ XX d 209 29 [some (.ref a), v1, v2, v3] (.ref a :: st) A Q := c_lcl i_209_28 rfl rfl
theorem q_209_29 : XX d 209 29 [v0, some (.int x), v2, v3] st A Q ↔ XX d 209 30 [v0, some (.int x), v2, v3] (.int x :: st) A Q := c_lcl i_209_29 rfl rfl
theorem q_209_30 : XX d 209 30 [v0, v1, some (.int x), v3] st A Q ↔ XX d 209 31 [v0, v1, some (.int x), v3] (.int x :: st) A Q := c_lcl i_209_30 rfl rfl
theorem q_209_31 : XX (d + 1) 209 31 [v0, v1, v2, v3] [.int x2, .int x1, .ref a0] (mk S I L R G) Q ↔ S a0 = some (.inr 12) ∧ XC d 193 [.ref a0, .int x1, .int x2] (mk S I L R G) (XK (d + 1) 209 31 [v0, v1, v2, v3] [] Q) := c_callV i_209_31 rfl rfl rfl rfl (Nat.le_of_ble_eq_true rfl) (Nat.le_of_ble_eq_true rfl) rfl
theorem q_209_34 : XX d 209 34 [v0, v1, v2, v3] (.int x :: st) A Q ↔ if x = w 0 then XX d 209 60 [v0, v1, v2, v3] st A Q else XX d 209 37 [v0, v1, v2, v3] st A Q := z_eq i_209_34 rfl rfl rfl
theorem q_209_37 : XX d 209 37 [v0, v1, v2, some (.int x)] st A Q ↔ XX d 209 38 [v0, v1, v2, some (.int x)] (.int x :: st) A Q := c_lcl i_209_37 rfl rfl
theorem q_209_38 : XX d 209 38 [v0, v1, v2, v3] st A Q ↔ XX d 209 39 [v0, v1, v2, v3] (.int (w 0) :: st) A Q := c_stk i_209_38 rfl
theorem q_209_39 : XX d 209 39 [some (.ref a), v1, v2, v3] st A Q ↔ XX d 209 40 [some (.ref a), v1, v2, v3] (.ref a :: st) A Q := c_lcl i_209_39 rfl rfl
theorem q_209_40 : XX d 209 40 [v0, v1, v2, v3] (.ref a :: st) (mk S I L R G) Q ↔ S a = some (.inr 12) ∧ XX d 209 43 [v0, v1, v2, v3] (.int (I a 16) :: st) (mk S I L R G) Q := r_gf i_209_40 rfl (by decide) rfl
theorem q_209_43 : XX d 209 43 [v0, v1, v2, v3] st A Q ↔ XX d 209 44 [v0, v1, v2, v3] (.int (w 1) :: st) A Q := c_stk i_209_43 rfl
theorem q_209_44 : XX d 209 44 [v0, v1, v2, v3] (.int y :: .int x :: st) A Q ↔ XX d 209 45 [v0, v1, v2, v3] (.int (x - y) :: st) A Q := c_stk i_209_44 rfl
theorem q_209_45 : XX (d + 1) 209 45 [v0, v1, v2, v3] [.int x2, .int x1, .int x0] A Q ↔ XC d 155 [.int x0, .int x1, .int x2] A (XK (d + 1) 209 45 [v0, v1, v2, v3] [] Q) := c_callS i_209_45 rfl rfl rfl rfl (Nat.le_of_ble_eq_true rfl) (Nat.le_of_ble_eq_true rfl)
theorem q_209_48 : XX d 209 48 [v0, v1, v2, v3] (.int x :: st) A Q ↔ if x = w 0 then XX d 209 60 [v0, v1, v2, v3] st A Q else XX d 209 51 [v0, v1, v2, v3] st A Q := z_eq i_209_48 rfl rfl rfl
theorem q_209_51 : XX d 209 51 [some (.ref a), v1, v2, v3] st A Q ↔ XX d 209 52 [some (.ref a), v1, v2, v3] (.ref a :: st) A Q := c_lcl i_209_51 rfl rfl
theorem q_209_52 : XX d 209 52 [v0, v1, v2, v3] (.ref a :: st) (mk S I L R G) Q ↔ S a = some (.inr 12) ∧ XX d 209 55 [v0, v1, v2, v3] (.ref (a + 6541) :: st) (mk S I L R G) Q := r_gf i_209_52 rfl (by decide) rfl
theorem q_209_55 : XX d 209 55 [v0, v1, v2, some (.int x)] st A Q ↔ XX d 209 56 [v0, v1, v2, some (.int x)] (.int x :: st) A Q := c_lcl i_209_55 rfl rfl
theorem q_209_56 : XX d 209 56 [v0, v1, v2, v3] (.int x :: .ref a :: st) (mk S I L R G) Q ↔ inA (S a) ok_b x ∧ XX d 209 57 [v0, v1, v2, v3] (.int (I a (ix x)) :: st) (mk S I L R G) Q := r_ba i_209_56
theorem q_209_57 : XX d 209 57 [v0, v1, v2, v3] st A Q ↔ XX d 209 61 [v0, v1, v2, v3] st A Q := c_go i_209_57 rfl rfl
theorem q_209_60 : XX d 209 60 [v0, v1, v2, v3] st A Q ↔ XX d 209 61 [v0, v1, v2, v3] (.int (w (-1)) :: st) A Q := c_stk i_209_60 rfl
theorem q_209_61 : XX d 209 61 [v0, v1, v2, v3] [.int x] A Q ↔ Q (.inl (some (.int x))) A := e_retI i_209_61 rfl
theorem q_209_e : XC d 209 [.ref a0, .int x1, .int x2, .int x3] A Q ↔ XX d 209 0 [some (.ref a0), some (.int x1), some (.int x2), some (.int x3)] [] A Q := Iff.rfl
theorem i_210_0 : t_ins 210 0 = some (.aload_n 0) := by decide +kernel
theorem i_210_1 : t_ins 210 1 = some (.iconst 0) := by decide +kernel
theorem i_210_2 : t_ins 210 2 = some (.putfield 121) := by decide +kernel
theorem i_210_5 : t_ins 210 5 = some (.aload_n 0) := by decide +kernel
theorem i_210_6 : t_ins 210 6 = some (.iload_n 1) := by decide +kernel
theorem i_210_7 : t_ins 210 7 = some (.invokestatic 245) := by decide +kernel
theorem i_210_10 : t_ins 210 10 = some (.ifCond .ne 7) := by decide +kernel
theorem i_210_13 : t_ins 210 13 = some (.iconst 1) := by decide +kernel
theorem i_210_14 : t_ins 210 14 = some (.goto 4) := by decide +kernel
theorem i_210_17 : t_ins 210 17 = some (.iconst 0) := by decide +kernel
theorem i_210_18 : t_ins 210 18 = some (.iconst 1) := by decide +kernel
theorem i_210_19 : t_ins 210 19 = some (.iconst 0) := by decide +kernel
theorem i_210_20 : t_ins 210 20 = some (.invokevirtual 234) := by decide +kernel
theorem i_210_23 : t_ins 210 23 = some (.ifCond .eq 5) := by decide +kernel
theorem i_210_26 : t_ins 210 26 = some (.iconst 0) := by decide +kernel
theorem i_210_27 : t_ins 210 27 = some (.ireturn) := by decide +kernel
theorem i_210_28 : t_ins 210 28 = some (.aload_n 0) := by decide +kernel
theorem i_210_29 : t_ins 210 29 = some (.iload_n 1) := by decide +kernel
theorem i_210_30 : t_ins 210 30 = some (.iload_n 2) := by decide +kernel
theorem i_210_31 : t_ins 210 31 = some (.invokevirtual 292) := by decide +kernel
theorem i_210_34 : t_ins 210 34 = some (.ifCond .eq 10) := by decide +kernel
theorem i_210_37 : t_ins 210 37 = some (.aload_n 0) := by decide +kernel
theorem i_210_38 : t_ins 210 38 = some (.getfield 272) := by decide +kernel
theorem i_210_41 : t_ins 210 41 = some (.goto 4) := by decide +kernel
theorem i_210_44 : t_ins 210 44 = some (.iconst (-1)) := by decide +kernel
theorem i_210_45 : t_ins 210 45 = some (.ireturn) := by decide +kernel
theorem q_210_0 : XX d 210 0 [some (.ref a), v1, v2] st A Q ↔ XX d 210 1 [some (.ref a), v1, v2] (.ref a :: st) A Q := c_lcl i_210_0 rfl rfl
theorem q_210_1 : XX d 210 1 [v0, v1, v2] st A Q ↔ XX d 210 2 [v0, v1, v2] (.int (w 0) :: st) A Q := c_stk i_210_1 rfl
theorem q_210_2 : XX d 210 2 [v0, v1, v2] (.int x :: .ref a :: st) (mk S I L R G) Q ↔ S a = some (.inr 12) ∧ XX d 210 5 [v0, v1, v2] st (mk S (wr I a (up (I a) 0 x)) L R G) Q := r_pf i_210_2 rfl (by decide) rfl rfl rfl
theorem q_210_5 : XX d 210 5 [some (.ref a), v1, v2] st A Q ↔ XX d 210 6 [some (.ref a), v1, v2] (.ref a :: st) A Q := c_lcl i_210_5 rfl rfl
theorem q_210_6 : XX d 210 6 [v0, some (.int x), v2] st A Q ↔ XX d 210 7 [v0, some (.int x), v2] (.int x :: st) A Q := c_lcl i_210_6 rfl rfl
theorem q_210_7 : XX (d + 1) 210 7 [v0, v1, v2] [.int x0, .ref a1] A Q ↔ XC d 182 [.int x0] A (XK (d + 1) 210 7 [v0, v1, v2] [.ref a1] Q) := c_callS i_210_7 rfl rfl rfl rfl (Nat.le_of_ble_eq_true rfl) (Nat.le_of_ble_eq_true rfl)
theorem q_210_10 : XX d 210 10 [v0, v1, v2] (.int x :: st) A Q ↔ if x = w 0 then XX d 210 13 [v0, v1, v2] st A Q else XX d 210 17 [v0, v1, v2] st A Q := z_ne i_210_10 rfl rfl rfl
theorem q_210_13 : XX d 210 13 [v0, v1, v2] st A Q ↔ XX d 210 14 [v0, v1, v2] (.int (w 1) :: st) A Q := c_stk i_210_13 rfl
theorem q_210_14 : XX d 210 14 [v0, v1, v2] st A Q ↔ XX d 210 18 [v0, v1, v2] st A Q := c_go i_210_14 rfl rfl
theorem q_210_17 : XX d 210 17 [v0, v1, v2] st A Q ↔ XX d 210 18 [v0, v1, v2] (.int (w 0) :: st) A Q := c_stk i_210_17 rfl
theorem q_210_18 : XX d 210 18 [v0, v1, v2] st A Q ↔ XX d 210 19 [v0, v1, v2] (.int (w 1) :: st) A Q := c_stk i_210_18 rfl
theorem q_210_19 : XX d 210 19 [v0, v1, v2] st A Q ↔ XX d 210 20 [v0, v1, v2] (.int (w 0) :: st) A Q := c_stk i_210_19 rfl
theorem q_210_20 : XX (d + 1) 210 20 [v0, v1, v2] [.int x3, .int x2, .int x1, .ref a0] (mk S I L R G) Q ↔ S a0 = some (.inr 12) ∧ XC d 154 [.ref a0, .int x1, .int x2, .int x3] (mk S I L R G) (XK (d + 1) 210 20 [v0, v1, v2] [] Q) := c_callV i_210_20 rfl rfl rfl rfl (Nat.le_of_ble_eq_true rfl) (Nat.le_of_ble_eq_true rfl) rfl
theorem q_210_23 : XX d 210 23 [v0, v1, v2] (.int x :: st) A Q ↔ if x = w 0 then XX d 210 28 [v0, v1, v2] st A Q else XX d 210 26 [v0, v1, v2] st A Q := z_eq i_210_23 rfl rfl rfl
theorem q_210_26 : XX d 210 26 [v0, v1, v2] st A Q ↔ XX d 210 27 [v0, v1, v2] (.int (w 0) :: st) A Q := c_stk i_210_26 rfl
theorem q_210_27 : XX d 210 27 [v0, v1, v2] [.int x] A Q ↔ Q (.inl (some (.int x))) A := e_retI i_210_27 rfl
theorem q_210_28 : XX d 210 28 [some (.ref a), v1, v2] st A Q ↔ XX d 210 29 [some (.ref a), v1, v2] (.ref a :: st) A Q := c_lcl i_210_28 rfl rfl
theorem q_210_29 : XX d 210 29 [v0, some (.int x), v2] st A Q ↔ XX d 210 30 [v0, some (.int x), v2] (.int x :: st) A Q := c_lcl i_210_29 rfl rfl
theorem q_210_30 : XX d 210 30 [v0, v1, some (.int x)] st A Q ↔ XX d 210 31 [v0, v1, some (.int x)] (.int x :: st) A Q := c_lcl i_210_30 rfl rfl
theorem q_210_31 : XX (d + 1) 210 31 [v0, v1, v2] [.int x2, .int x1, .ref a0] (mk S I L R G) Q ↔ S a0 = some (.inr 12) ∧ XC d 193 [.ref a0, .int x1, .int x2] (mk S I L R G) (XK (d + 1) 210 31 [v0, v1, v2] [] Q) := c_callV i_210_31 rfl rfl rfl rfl (Nat.le_of_ble_eq_true rfl) (Nat.le_of_ble_eq_true rfl) rfl
theorem q_210_34 : XX d 210 34 [v0, v1, v2] (.int x :: st) A Q ↔ if x = w 0 then XX d 210 44 [v0, v1, v2] st A Q else XX d 210 37 [v0, v1, v2] st A Q := z_eq i_210_34 rfl rfl rfl
theorem q_210_37 : XX d 210 37 [some (.ref a), v1, v2] st A Q ↔ XX d 210 38 [some (.ref a), v1, v2] (.ref a :: st) A Q := c_lcl i_210_37 rfl rfl
theorem q_210_38 : XX d 210 38 [v0, v1, v2] (.ref a :: st) (mk S I L R G) Q ↔ S a = some (.inr 12) ∧ XX d 210 41 [v0, v1, v2] (.int (I a 18) :: st) (mk S I L R G) Q := r_gf i_210_38 rfl (by decide) rfl
theorem q_210_41 : XX d 210 41 [v0, v1, v2] st A Q ↔ XX d 210 45 [v0, v1, v2] st A Q := c_go i_210_41 rfl rfl
theorem q_210_44 : XX d 210 44 [v0, v1, v2] st A Q ↔ XX d 210 45 [v0, v1, v2] (.int (w (-1)) :: st) A Q := c_stk i_210_44 rfl
theorem q_210_45 : XX d 210 45 [v0, v1, v2] [.int x] A Q ↔ Q (.inl (some (.int x))) A := e_retI i_210_45 rfl
theorem q_210_e : XC d 210 [.ref a0, .int x1, .int x2] A Q ↔ XX d 210 0 [some (.ref a0), some (.int x1), some (.int x2)] [] A Q := Iff.rfl
theorem i_211_0 : t_ins 211 0 = some (.aload_n 0) := by decide +kernel
theorem i_211_1 : t_ins 211 1 = some (.iconst 0) := by decide +kernel
theorem i_211_2 : t_ins 211 2 = some (.putfield 121) := by decide +kernel
theorem i_211_5 : t_ins 211 5 = some (.aload_n 0) := by decide +kernel
theorem i_211_6 : t_ins 211 6 = some (.iload_n 1) := by decide +kernel
theorem i_211_7 : t_ins 211 7 = some (.invokestatic 245) := by decide +kernel
theorem i_211_10 : t_ins 211 10 = some (.ifCond .ne 7) := by decide +kernel
theorem i_211_13 : t_ins 211 13 = some (.iconst 1) := by decide +kernel
theorem i_211_14 : t_ins 211 14 = some (.goto 4) := by decide +kernel
theorem i_211_17 : t_ins 211 17 = some (.iconst 0) := by decide +kernel
theorem i_211_18 : t_ins 211 18 = some (.iconst 1) := by decide +kernel
theorem i_211_19 : t_ins 211 19 = some (.iconst 0) := by decide +kernel
theorem i_211_20 : t_ins 211 20 = some (.invokevirtual 234) := by decide +kernel
theorem i_211_23 : t_ins 211 23 = some (.ifCond .eq 5) := by decide +kernel
theorem i_211_26 : t_ins 211 26 = some (.iconst 0) := by decide +kernel
theorem i_211_27 : t_ins 211 27 = some (.ireturn) := by decide +kernel
theorem i_211_28 : t_ins 211 28 = some (.aload_n 0) := by decide +kernel
theorem i_211_29 : t_ins 211 29 = some (.iload_n 1) := by decide +kernel
theorem i_211_30 : t_ins 211 30 = some (.iload_n 2) := by decide +kernel
theorem i_211_31 : t_ins 211 31 = some (.invokevirtual 292) := by decide +kernel
theorem i_211_34 : t_ins 211 34 = some (.pop) := by decide +kernel
theorem i_211_35 : t_ins 211 35 = some (.aload_n 0) := by decide +kernel
theorem i_211_36 : t_ins 211 36 = some (.getfield 255) := by decide +kernel
theorem i_211_39 : t_ins 211 39 = some (.ireturn) := by decide +kernel
theorem q_211_0 : XX d 211 0 [some (.ref a), v1, v2] st A Q ↔ XX d 211 1 [some (.ref a), v1, v2] (.ref a :: st) A Q := c_lcl i_211_0 rfl rfl
theorem q_211_1 : XX d 211 1 [v0, v1, v2] st A Q ↔ XX d 211 2 [v0, v1, v2] (.int (w 0) :: st) A Q := c_stk i_211_1 rfl
theorem q_211_2 : XX d 211 2 [v0, v1, v2] (.int x :: .ref a :: st) (mk S I L R G) Q ↔ S a = some (.inr 12) ∧ XX d 211 5 [v0, v1, v2] st (mk S (wr I a (up (I a) 0 x)) L R G) Q := r_pf i_211_2 rfl (by decide) rfl rfl rfl
theorem q_211_5 : XX d 211 5 [some (.ref a), v1, v2] st A Q ↔ XX d 211 6 [some (.ref a), v1, v2] (.ref a :: st) A Q := c_lcl i_211_5 rfl rfl
theorem q_211_6 : XX d 211 6 [v0, some (.int x), v2] st A Q ↔ XX d 211 7 [v0, some (.int x), v2] (.int x :: st) A Q := c_lcl i_211_6 rfl rfl
theorem q_211_7 : XX (d + 1) 211 7 [v0, v1, v2] [.int x0, .ref a1] A Q ↔ XC d 182 [.int x0] A (XK (d + 1) 211 7 [v0, v1, v2] [.ref a1] Q) := c_callS i_211_7 rfl rfl rfl rfl (Nat.le_of_ble_eq_true rfl) (Nat.le_of_ble_eq_true rfl)
theorem q_211_10 : XX d 211 10 [v0, v1, v2] (.int x :: st) A Q ↔ if x = w 0 then XX d 211 13 [v0, v1, v2] st A Q else XX d 211 17 [v0, v1, v2] st A Q := z_ne i_211_10 rfl rfl rfl
theorem q_211_13 : XX d 211 13 [v0, v1, v2] st A Q ↔ XX d 211 14 [v0, v1, v2] (.int (w 1) :: st) A Q := c_stk i_211_13 rfl
theorem q_211_14 : XX d 211 14 [v0, v1, v2] st A Q ↔ XX d 211 18 [v0, v1, v2] st A Q := c_go i_211_14 rfl rfl
theorem q_211_17 : XX d 211 17 [v0, v1, v2] st A Q ↔ XX d 211 18 [v0, v1, v2] (.int (w 0) :: st) A Q := c_stk i_211_17 rfl
theorem q_211_18 : XX d 211 18 [v0, v1, v2] st A Q ↔ XX d 211 19 [v0, v1, v2] (.int (w 1) :: st) A Q := c_stk i_211_18 rfl
theorem q_211_19 : XX d 211 19 [v0, v1, v2] st A Q ↔ XX d 211 20 [v0, v1, v2] (.int (w 0) :: st) A Q := c_stk i_211_19 rfl
theorem q_211_20 : XX (d + 1) 211 20 [v0, v1, v2] [.int x3, .int x2, .int x1, .ref a0] (mk S I L R G) Q ↔ S a0 = some (.inr 12) ∧ XC d 154 [.ref a0, .int x1, .int x2, .int x3] (mk S I L R G) (XK (d + 1) 211 20 [v0, v1, v2] [] Q) := c_callV i_211_20 rfl rfl rfl rfl (Nat.le_of_ble_eq_true rfl) (Nat.le_of_ble_eq_true rfl) rfl
theorem q_211_23 : XX d 211 23 [v0, v1, v2] (.int x :: st) A Q ↔ if x = w 0 then XX d 211 28 [v0, v1, v2] st A Q else XX d 211 26 [v0, v1, v2] st A Q := z_eq i_211_23 rfl rfl rfl
theorem q_211_26 : XX d 211 26 [v0, v1, v2] st A Q ↔ XX d 211 27 [v0, v1, v2] (.int (w 0) :: st) A Q := c_stk i_211_26 rfl
theorem q_211_27 : XX d 211 27 [v0, v1, v2] [.int x] A Q ↔ Q (.inl (some (.int x))) A := e_retI i_211_27 rfl
theorem q_211_28 : XX d 211 28 [some (.ref a), v1, v2] st A Q ↔ XX d 211 29 [some (.ref a), v1, v2] (.ref a :: st) A Q := c_lcl i_211_28 rfl rfl
theorem q_211_29 : XX d 211 29 [v0, some (.int x), v2] st A Q ↔ XX d 211 30 [v0, some (.int x), v2] (.int x :: st) A Q := c_lcl i_211_29 rfl rfl
theorem q_211_30 : XX d 211 30 [v0, v1, some (.int x)] st A Q ↔ XX d 211 31 [v0, v1, some (.int x)] (.int x :: st) A Q := c_lcl i_211_30 rfl rfl
theorem q_211_31 : XX (d + 1) 211 31 [v0, v1, v2] [.int x2, .int x1, .ref a0] (mk S I L R G) Q ↔ S a0 = some (.inr 12) ∧ XC d 193 [.ref a0, .int x1, .int x2] (mk S I L R G) (XK (d + 1) 211 31 [v0, v1, v2] [] Q) := c_callV i_211_31 rfl rfl rfl rfl (Nat.le_of_ble_eq_true rfl) (Nat.le_of_ble_eq_true rfl) rfl
theorem q_211_34 : XX d 211 34 [v0, v1, v2] (.int x1 :: st) A Q ↔ XX d 211 35 [v0, v1, v2] st A Q := c_stk i_211_34 rfl
theorem q_211_35 : XX d 211 35 [some (.ref a), v1, v2] st A Q ↔ XX d 211 36 [some (.ref a), v1, v2] (.ref a :: st) A Q := c_lcl i_211_35 rfl rfl
theorem q_211_36 : XX d 211 36 [v0, v1, v2] (.ref a :: st) (mk S I L R G) Q ↔ S a = some (.inr 12) ∧ XX d 211 39 [v0, v1, v2] (.int (I a 19) :: st) (mk S I L R G) Q := r_gf i_211_36 rfl (by decide) rfl
theorem q_211_39 : XX d 211 39 [v0, v1, v2] [.int x] A Q ↔ Q (.inl (some (.int x))) A := e_retI i_211_39 rfl
theorem q_211_e : XC d 211 [.ref a0, .int x1, .int x2] A Q ↔ XX d 211 0 [some (.ref a0), some (.int x1), some (.int x2)] [] A Q := Iff.rfl
theorem i_212_0 : t_ins 212 0 = some (.aload_n 0) := by decide +kernel
theorem i_212_1 : t_ins 212 1 = some (.iconst 0) := by decide +kernel
theorem i_212_2 : t_ins 212 2 = some (.putfield 121) := by decide +kernel
theorem i_212_5 : t_ins 212 5 = some (.iload_n 1) := by decide +kernel
theorem i_212_6 : t_ins 212 6 = some (.invokestatic 245) := by decide +kernel
theorem i_212_9 : t_ins 212 9 = some (.istore 5) := by decide +kernel
theorem i_212_11 : t_ins 212 11 = some (.iload 5) := by decide +kernel
theorem i_212_13 : t_ins 212 13 = some (.ifCond .eq 10) := by decide +kernel
theorem i_212_16 : t_ins 212 16 = some (.aload_n 0) := by decide +kernel
theorem i_212_17 : t_ins 212 17 = some (.iload_n 1) := by decide +kernel
theorem i_212_18 : t_ins 212 18 = some (.iload_n 2) := by decide +kernel
theorem i_212_19 : t_ins 212 19 = some (.invokevirtual 292) := by decide +kernel
theorem i_212_22 : t_ins 212 22 = some (.pop) := by decide +kernel
theorem i_212_23 : t_ins 212 23 = some (.aload_n 0) := by decide +kernel
theorem i_212_24 : t_ins 212 24 = some (.iload 5) := by decide +kernel
theorem i_212_26 : t_ins 212 26 = some (.ifCond .eq 17) := by decide +kernel
theorem i_212_29 : t_ins 212 29 = some (.iload_n 3) := by decide +kernel
theorem i_212_30 : t_ins 212 30 = some (.iconst 0) := by decide +kernel
theorem i_212_31 : t_ins 212 31 = some (.aload_n 0) := by decide +kernel
theorem i_212_32 : t_ins 212 32 = some (.getfield 255) := by decide +kernel
theorem i_212_35 : t_ins 212 35 = some (.iconst 1) := by decide +kernel
theorem i_212_36 : t_ins 212 36 = some (.isub) := by decide +kernel
theorem i_212_37 : t_ins 212 37 = some (.invokestatic 230) := by decide +kernel
theorem i_212_40 : t_ins 212 40 = some (.ifCond .ne 7) := by decide +kernel
theorem i_212_43 : t_ins 212 43 = some (.iconst 1) := by decide +kernel
theorem i_212_44 : t_ins 212 44 = some (.goto 4) := by decide +kernel
theorem i_212_47 : t_ins 212 47 = some (.iconst 0) := by decide +kernel
theorem i_212_48 : t_ins 212 48 = some (.iconst 1) := by decide +kernel
theorem i_212_49 : t_ins 212 49 = some (.iconst 0) := by decide +kernel
theorem i_212_50 : t_ins 212 50 = some (.invokevirtual 234) := by decide +kernel
theorem i_212_53 : t_ins 212 53 = some (.ifCond .ne 27) := by decide +kernel
theorem i_212_56 : t_ins 212 56 = some (.aload_n 0) := by decide +kernel
theorem i_212_57 : t_ins 212 57 = some (.iload 4) := by decide +kernel
theorem i_212_59 : t_ins 212 59 = some (.iconst 0) := by decide +kernel
theorem i_212_60 : t_ins 212 60 = some (.iconst 3) := by decide +kernel
theorem i_212_61 : t_ins 212 61 = some (.invokestatic 230) := by decide +kernel
theorem i_212_64 : t_ins 212 64 = some (.ifCond .ne 7) := by decide +kernel
theorem i_212_67 : t_ins 212 67 = some (.iconst 1) := by decide +kernel
theorem i_212_68 : t_ins 212 68 = some (.goto 4) := by decide +kernel
theorem i_212_71 : t_ins 212 71 = some (.iconst 0) := by decide +kernel
theorem i_212_72 : t_ins 212 72 = some (.iconst 2) := by decide +kernel
theorem i_212_73 : t_ins 212 73 = some (.iconst 1) := by decide +kernel
theorem i_212_74 : t_ins 212 74 = some (.invokevirtual 234) := by decide +kernel
theorem i_212_77 : t_ins 212 77 = some (.ifCond .eq 5) := by decide +kernel
theorem i_212_80 : t_ins 212 80 = some (.iconst 0) := by decide +kernel
theorem i_212_81 : t_ins 212 81 = some (.ireturn) := by decide +kernel
theorem i_212_82 : t_ins 212 82 = some (.aload_n 0) := by decide +kernel
theorem i_212_83 : t_ins 212 83 = some (.getfield 48) := by decide +kernel
theorem i_212_86 : t_ins 212 86 = some (.aload_n 0) := by decide +kernel
theorem i_212_87 : t_ins 212 87 = some (.getfield 255) := by decide +kernel
theorem i_212_90 : t_ins 212 90 = some (.iconst 1) := by decide +kernel
theorem i_212_91 : t_ins 212 91 = some (.isub) := by decide +kernel
theorem i_212_92 : t_ins 212 92 = some (.iload_n 3) := by decide +kernel
theorem i_212_93 : t_ins 212 93 = some (.isub) := by decide +kernel
theorem i_212_94 : t_ins 212 94 = some (.aaload) := by decide +kernel
theorem i_212_95 : t_ins 212 95 = some (.iload 4) := by decide +kernel
theorem i_212_97 : t_ins 212 97 = some (.iaload) := by decide +kernel
theorem i_212_98 : t_ins 212 98 = some (.ireturn) := by decide +kernel
theorem q_212_0 : XX d 212 0 [some (.ref a), v1, v2, v3, v4, v5] st A Q ↔ XX d 212 1 [some (.ref a), v1, v2, v3, v4, v5] (.ref a :: st) A Q := c_lcl i_212_0 rfl rfl
theorem q_212_1 : XX d 212 1 [v0, v1, v2, v3, v4, v5] st A Q ↔ XX d 212 2 [v0, v1, v2, v3, v4, v5] (.int (w 0) :: st) A Q := c_stk i_212_1 rfl
theorem q_212_2 : XX d 212 2 [v0, v1, v2, v3, v4, v5] (.int x :: .ref a :: st) (mk S I L R G) Q ↔ S a = some (.inr 12) ∧ XX d 212 5 [v0, v1, v2, v3, v4, v5] st (mk S (wr I a (up (I a) 0 x)) L R G) Q := r_pf i_212_2 rfl (by decide) rfl rfl rfl
theorem q_212_5 : XX d 212 5 [v0, some (.int x), v2, v3, v4, v5] st A Q ↔ XX d 212 6 [v0, some (.int x), v2, v3, v4, v5] (.int x :: st) A Q := c_lcl i_212_5 rfl rfl
theorem q_212_6 : XX (d + 1) 212 6 [v0, v1, v2, v3, v4, v5] [.int x0] A Q ↔ XC d 182 [.int x0] A (XK (d + 1) 212 6 [v0, v1, v2, v3, v4, v5] [] Q) := c_callS i_212_6 rfl rfl rfl rfl (Nat.le_of_ble_eq_true rfl) (Nat.le_of_ble_eq_true rfl)
theorem q_212_9 : XX d 212 9 [v0, v1, v2, v3, some (.int z), v5] (.int x :: st) A Q ↔ XX d 212 11 [v0, v1, v2, v3, some (.int z), some (.int x)] st A Q := c_lcl i_212_9 rfl rfl
theorem q_212_11 : XX d 212 11 [v0, v1, v2, v3, v4, some (.int x)] st A Q ↔ XX d 212 13 [v0, v1, v2, v3, v4, some (.int x)] (.int x :: st) A Q := c_lcl i_212_11 rfl rfl
theorem q_212_13 : XX d 212 13 [v0, v1, v2, v3, v4, v5] (.int x :: st) A Q ↔ if x = w 0 then XX d 212 23 [v0, v1, v2, v3, v4, v5] st A Q else XX d 212 16 [v0, v1, v2, v3, v4, v5] st A Q := z_eq i_212_13 rfl rfl rfl
theorem q_212_16 : XX d 212 16 [some (.ref a), v1, v2, v3, v4, v5] st A Q ↔ XX d 212 17 [some (.ref a), v1, v2, v3, v4, v5] (.ref a :: st) A Q := c_lcl i_212_16 rfl rfl
theorem q_212_17 : XX d 212 17 [v0, some (.int x), v2, v3, v4, v5] st A Q ↔ XX d 212 18 [v0, some (.int x), v2, v3, v4, v5] (.int x :: st) A Q := c_lcl i_212_17 rfl rfl
theorem q_212_18 : XX d 212 18 [v0, v1, some (.int x), v3, v4, v5] st A Q ↔ XX d 212 19 [v0, v1, some (.int x), v3, v4, v5] (.int x :: st) A Q := c_lcl i_212_18 rfl rfl
theorem q_212_19 : XX (d + 1) 212 19 [v0, v1, v2, v3, v4, v5] [.int x2, .int x1, .ref a0] (mk S I L R G) Q ↔ S a0 = some (.inr 12) ∧ XC d 193 [.ref a0, .int x1, .int x2] (mk S I L R G) (XK (d + 1) 212 19 [v0, v1, v2, v3, v4, v5] [] Q) := c_callV i_212_19 rfl rfl rfl rfl (Nat.le_of_ble_eq_true rfl) (Nat.le_of_ble_eq_true rfl) rfl
theorem q_212_22 : XX d 212 22 [v0, v1, v2, v3, v4, v5] (.int x1 :: st) A Q ↔ XX d 212 23 [v0, v1, v2, v3, v4, v5] st A Q := c_stk i_212_22 rfl
theorem q_212_23 : XX d 212 23 [some (.ref a), v1, v2, v3, v4, v5] st A Q ↔ XX d 212 24 [some (.ref a), v1, v2, v3, v4, v5] (.ref a :: st) A Q := c_lcl i_212_23 rfl rfl
theorem q_212_24 : XX d 212 24 [v0, v1, v2, v3, v4, some (.int x)] st A Q ↔ XX d 212 26 [v0, v1, v2, v3, v4, some (.int x)] (.int x :: st) A Q := c_lcl i_212_24 rfl rfl
theorem q_212_26 : XX d 212 26 [v0, v1, v2, v3, v4, v5] (.int x :: st) A Q ↔ if x = w 0 then XX d 212 43 [v0, v1, v2, v3, v4, v5] st A Q else XX d 212 29 [v0, v1, v2, v3, v4, v5] st A Q := z_eq i_212_26 rfl rfl rfl
theorem q_212_29 : XX d 212 29 [v0, v1, v2, some (.int x), v4, v5] st A Q ↔ XX d 212 30 [v0, v1, v2, some (.int x), v4, v5] (.int x :: st) A Q := c_lcl i_212_29 rfl rfl
theorem q_212_30 : XX d 212 30 [v0, v1, v2, v3, v4, v5] st A Q ↔ XX d 212 31 [v0, v1, v2, v3, v4, v5] (.int (w 0) :: st) A Q := c_stk i_212_30 rfl
theorem q_212_31 : XX d 212 31 [some (.ref a), v1, v2, v3, v4, v5] st A Q ↔ XX d 212 32 [some (.ref a), v1, v2, v3, v4, v5] (.ref a :: st) A Q := c_lcl i_212_31 rfl rfl
theorem q_212_32 : XX d 212 32 [v0, v1, v2, v3, v4, v5] (.ref a :: st) (mk S I L R G) Q ↔ S a = some (.inr 12) ∧ XX d 212 35 [v0, v1, v2, v3, v4, v5] (.int (I a 19) :: st) (mk S I L R G) Q := r_gf i_212_32 rfl (by decide) rfl
theorem q_212_35 : XX d 212 35 [v0, v1, v2, v3, v4, v5] st A Q ↔ XX d 212 36 [v0, v1, v2, v3, v4, v5] (.int (w 1) :: st) A Q := c_stk i_212_35 rfl
theorem q_212_36 : XX d 212 36 [v0, v1, v2, v3, v4, v5] (.int y :: .int x :: st) A Q ↔ XX d 212 37 [v0, v1, v2, v3, v4, v5] (.int (x - y) :: st) A Q := c_stk i_212_36 rfl
theorem q_212_37 : XX (d + 1) 212 37 [v0, v1, v2, v3, v4, v5] [.int x2, .int x1, .int x0, .ref a3] A Q ↔ XC d 155 [.int x0, .int x1, .int x2] A (XK (d + 1) 212 37 [v0, v1, v2, v3, v4, v5] [.ref a3] Q) := c_callS i_212_37 rfl rfl rfl rfl (Nat.le_of_ble_eq_true rfl) (Nat.le_of_ble_eq_true rfl)
theorem q_212_40 : XX d 212 40 [v0, v1, v2, v3, v4, v5] (.int x :: st) A Q ↔ if x = w 0 then XX d 212 43 [v0, v1, v2, v3, v4, v5] st A Q else XX d 212 47 [v0, v1, v2, v3, v4, v5] st A Q := z_ne i_212_40 rfl rfl rfl
theorem q_212_43 : XX d 212 43 [v0, v1, v2, v3, v4, v5] st A Q ↔ XX d 212 44 [v0, v1, v2, v3, v4, v5] (.int (w 1) :: st) A Q := c_stk i_212_43 rfl
theorem q_212_44 : XX d 212 44 [v0, v1, v2, v3, v4, v5] st A Q ↔ XX d 212 48 [v0, v1, v2, v3, v4, v5] st A Q := c_go i_212_44 rfl rfl
theorem q_212_47 : XX d 212 47 [v0, v1, v2, v3, v4, v5] st A Q ↔ XX d 212 48 [v0, v1, v2, v3, v4, v5] (.int (w 0) :: st) A Q := c_stk i_212_47 rfl
theorem q_212_48 : XX d 212 48 [v0, v1, v2, v3, v4, v5] st A Q ↔ XX d 212 49 [v0, v1, v2, v3, v4, v5] (.int (w 1) :: st) A Q := c_stk i_212_48 rfl
theorem q_212_49 : XX d 212 49 [v0, v1, v2, v3, v4, v5] st A Q ↔ XX d 212 50 [v0, v1, v2, v3, v4, v5] (.int (w 0) :: st) A Q := c_stk i_212_49 rfl
theorem q_212_50 : XX (d + 1) 212 50 [v0, v1, v2, v3, v4, v5] [.int x3, .int x2, .int x1, .ref a0] (mk S I L R G) Q ↔ S a0 = some (.inr 12) ∧ XC d 154 [.ref a0, .int x1, .int x2, .int x3] (mk S I L R G) (XK (d + 1) 212 50 [v0, v1, v2, v3, v4, v5] [] Q) := c_callV i_212_50 rfl rfl rfl rfl (Nat.le_of_ble_eq_true rfl) (Nat.le_of_ble_eq_true rfl) rfl
theorem q_212_53 : XX d 212 53 [v0, v1, v2, v3, v4, v5] (.int x :: st) A Q ↔ if x = w 0 then XX d 212 56 [v0, v1, v2, v3, v4, v5] st A Q else XX d 212 80 [v0, v1, v2, v3, v4, v5] st A Q := z_ne i_212_53 rfl rfl rfl
theorem q_212_56 : XX d 212 56 [some (.ref a), v1, v2, v3, v4, v5] st A Q ↔ XX d 212 57 [some (.ref a), v1, v2, v3, v4, v5] (.ref a :: st) A Q := c_lcl i_212_56 rfl rfl
theorem q_212_57 : XX d 212 57 [v0, v1, v2, v3, some (.int x), v5] st A Q ↔ XX d 212 59 [v0, v1, v2, v3, some (.int x), v5] (.int x :: st) A Q := c_lcl i_212_57 rfl rfl
theorem q_212_59 : XX d 212 59 [v0, v1, v2, v3, v4, v5] st A Q ↔ XX d 212 60 [v0, v1, v2, v3, v4, v5] (.int (w 0) :: st) A Q := c_stk i_212_59 rfl
theorem q_212_60 : XX d 212 60 [v0, v1, v2, v3, v4, v5] st A Q ↔ XX d 212 61 [v0, v1, v2, v3, v4, v5] (.int (w 3) :: st) A Q := c_stk i_212_60 rfl
theorem q_212_61 : XX (d + 1) 212 61 [v0, v1, v2, v3, v4, v5] [.int x2, .int x1, .int x0, .ref a3] A Q ↔ XC d 155 [.int x0, .int x1, .int x2] A (XK (d + 1) 212 61 [v0, v1, v2, v3, v4, v5] [.ref a3] Q) := c_callS i_212_61 rfl rfl rfl rfl (Nat.le_of_ble_eq_true rfl) (Nat.le_of_ble_eq_true rfl)
theorem q_212_64 : XX d 212 64 [v0, v1, v2, v3, v4, v5] (.int x :: st) A Q ↔ if x = w 0 then XX d 212 67 [v0, v1, v2, v3, v4, v5] st A Q else XX d 212 71 [v0, v1, v2, v3, v4, v5] st A Q := z_ne i_212_64 rfl rfl rfl
theorem q_212_67 : XX d 212 67 [v0, v1, v2, v3, v4, v5] st A Q ↔ XX d 212 68 [v0, v1, v2, v3, v4, v5] (.int (w 1) :: st) A Q := c_stk i_212_67 rfl
theorem q_212_68 : XX d 212 68 [v0, v1, v2, v3, v4, v5] st A Q ↔ XX d 212 72 [v0, v1, v2, v3, v4, v5] st A Q := c_go i_212_68 rfl rfl
theorem q_212_71 : XX d 212 71 [v0, v1, v2, v3, v4, v5] st A Q ↔ XX d 212 72 [v0, v1, v2, v3, v4, v5] (.int (w 0) :: st) A Q := c_stk i_212_71 rfl
theorem q_212_72 : XX d 212 72 [v0, v1, v2, v3, v4, v5] st A Q ↔ XX d 212 73 [v0, v1, v2, v3, v4, v5] (.int (w 2) :: st) A Q := c_stk i_212_72 rfl
theorem q_212_73 : XX d 212 73 [v0, v1, v2, v3, v4, v5] st A Q ↔ XX d 212 74 [v0, v1, v2, v3, v4, v5] (.int (w 1) :: st) A Q := c_stk i_212_73 rfl
theorem q_212_74 : XX (d + 1) 212 74 [v0, v1, v2, v3, v4, v5] [.int x3, .int x2, .int x1, .ref a0] (mk S I L R G) Q ↔ S a0 = some (.inr 12) ∧ XC d 154 [.ref a0, .int x1, .int x2, .int x3] (mk S I L R G) (XK (d + 1) 212 74 [v0, v1, v2, v3, v4, v5] [] Q) := c_callV i_212_74 rfl rfl rfl rfl (Nat.le_of_ble_eq_true rfl) (Nat.le_of_ble_eq_true rfl) rfl
theorem q_212_77 : XX d 212 77 [v0, v1, v2, v3, v4, v5] (.int x :: st) A Q ↔ if x = w 0 then XX d 212 82 [v0, v1, v2, v3, v4, v5] st A Q else XX d 212 80 [v0, v1, v2, v3, v4, v5] st A Q := z_eq i_212_77 rfl rfl rfl
theorem q_212_80 : XX d 212 80 [v0, v1, v2, v3, v4, v5] st A Q ↔ XX d 212 81 [v0, v1, v2, v3, v4, v5] (.int (w 0) :: st) A Q := c_stk i_212_80 rfl
theorem q_212_81 : XX d 212 81 [v0, v1, v2, v3, v4, v5] [.int x] A Q ↔ Q (.inl (some (.int x))) A := e_retI i_212_81 rfl
theorem q_212_82 : XX d 212 82 [some (.ref a), v1, v2, v3, v4, v5] st A Q ↔ XX d 212 83 [some (.ref a), v1, v2, v3, v4, v5] (.ref a :: st) A Q := c_lcl i_212_82 rfl rfl
theorem q_212_83 : XX d 212 83 [v0, v1, v2, v3, v4, v5] (.ref a :: st) (mk S I L R G) Q ↔ S a = some (.inr 12) ∧ XX d 212 86 [v0, v1, v2, v3, v4, v5] (.ref (a + 6543) :: st) (mk S I L R G) Q := r_gf i_212_83 rfl (by decide) rfl
theorem q_212_86 : XX d 212 86 [some (.ref a), v1, v2, v3, v4, v5] st A Q ↔ XX d 212 87 [some (.ref a), v1, v2, v3, v4, v5] (.ref a :: st) A Q := c_lcl i_212_86 rfl rfl
theorem q_212_87 : XX d 212 87 [v0, v1, v2, v3, v4, v5] (.ref a :: st) (mk S I L R G) Q ↔ S a = some (.inr 12) ∧ XX d 212 90 [v0, v1, v2, v3, v4, v5] (.int (I a 19) :: st) (mk S I L R G) Q := r_gf i_212_87 rfl (by decide) rfl
theorem q_212_90 : XX d 212 90 [v0, v1, v2, v3, v4, v5] st A Q ↔ XX d 212 91 [v0, v1, v2, v3, v4, v5] (.int (w 1) :: st) A Q := c_stk i_212_90 rfl
theorem q_212_91 : XX d 212 91 [v0, v1, v2, v3, v4, v5] (.int y :: .int x :: st) A Q ↔ XX d 212 92 [v0, v1, v2, v3, v4, v5] (.int (x - y) :: st) A Q := c_stk i_212_91 rfl
theorem q_212_92 : XX d 212 92 [v0, v1, v2, some (.int x), v4, v5] st A Q ↔ XX d 212 93 [v0, v1, v2, some (.int x), v4, v5] (.int x :: st) A Q := c_lcl i_212_92 rfl rfl
theorem q_212_93 : XX d 212 93 [v0, v1, v2, v3, v4, v5] (.int y :: .int x :: st) A Q ↔ XX d 212 94 [v0, v1, v2, v3, v4, v5] (.int (x - y) :: st) A Q := c_stk i_212_93 rfl
theorem q_212_94 : XX d 212 94 [v0, v1, v2, v3, v4, v5] (.int x :: .ref a :: st) (mk S I L R G) Q ↔ inA (S a) ok_q x ∧ XX d 212 95 [v0, v1, v2, v3, v4, v5] (va_rf (R a (ix x)) :: st) (mk S I L R G) Q := r_aq i_212_94
theorem q_212_95 : XX d 212 95 [v0, v1, v2, v3, some (.int x), v5] st A Q ↔ XX d 212 97 [v0, v1, v2, v3, some (.int x), v5] (.int x :: st) A Q := c_lcl i_212_95 rfl rfl
theorem q_212_97 : XX d 212 97 [v0, v1, v2, v3, v4, v5] (.int x :: .ref a :: st) (mk S I L R G) Q ↔ inA (S a) ok_i x ∧ XX d 212 98 [v0, v1, v2, v3, v4, v5] (.int (I a (ix x)) :: st) (mk S I L R G) Q := r_ia i_212_97
theorem q_212_98 : XX d 212 98 [v0, v1, v2, v3, v4, v5] [.int x] A Q ↔ Q (.inl (some (.int x))) A := e_retI i_212_98 rfl
theorem q_212_e : XC d 212 [.ref a0, .int x1, .int x2, .int x3, .int x4] A Q ↔ XX d 212 0 [some (.ref a0), some (.int x1), some (.int x2), some (.int x3), some (.int x4), none] [] A Q := Iff.rfl
theorem i_213_0 : t_ins 213 0 = some (.aload_n 0) := by decide +kernel
theorem i_213_1 : t_ins 213 1 = some (.iconst 0) := by decide +kernel
theorem i_213_2 : t_ins 213 2 = some (.putfield 121) := by decide +kernel
theorem i_213_5 : t_ins 213 5 = some (.aload_n 0) := by decide +kernel
theorem i_213_6 : t_ins 213 6 = some (.iload_n 1) := by decide +kernel
theorem i_213_7 : t_ins 213 7 = some (.invokestatic 245) := by decide +kernel
theorem i_213_10 : t_ins 213 10 = some (.ifCond .ne 7) := by decide +kernel
theorem i_213_13 : t_ins 213 13 = some (.iconst 1) := by decide +kernel
theorem i_213_14 : t_ins 213 14 = some (.goto 4) := by decide +kernel
theorem i_213_17 : t_ins 213 17 = some (.iconst 0) := by decide +kernel
theorem i_213_18 : t_ins 213 18 = some (.iconst 1) := by decide +kernel
theorem i_213_19 : t_ins 213 19 = some (.iconst 0) := by decide +kernel
theorem i_213_20 : t_ins 213 20 = some (.invokevirtual 234) := by decide +kernel
theorem i_213_23 : t_ins 213 23 = some (.ifCond .ne 26) := by decide +kernel
theorem i_213_26 : t_ins 213 26 = some (.aload_n 0) := by decide +kernel
theorem i_213_27 : t_ins 213 27 = some (.iload_n 2) := by decide +kernel
theorem i_213_28 : t_ins 213 28 = some (.iconst 0) := by decide +kernel
theorem i_213_29 : t_ins 213 29 = some (.iconst 4) := by decide +kernel
theorem i_213_30 : t_ins 213 30 = some (.invokestatic 230) := by decide +kernel
theorem i_213_33 : t_ins 213 33 = some (.ifCond .ne 7) := by decide +kernel
theorem i_213_36 : t_ins 213 36 = some (.iconst 1) := by decide +kernel
theorem i_213_37 : t_ins 213 37 = some (.goto 4) := by decide +kernel
theorem i_213_40 : t_ins 213 40 = some (.iconst 0) := by decide +kernel
theorem i_213_41 : t_ins 213 41 = some (.iconst 2) := by decide +kernel
theorem i_213_42 : t_ins 213 42 = some (.iconst 1) := by decide +kernel
theorem i_213_43 : t_ins 213 43 = some (.invokevirtual 234) := by decide +kernel
theorem i_213_46 : t_ins 213 46 = some (.ifCond .eq 5) := by decide +kernel
theorem i_213_49 : t_ins 213 49 = some (.iconst 0) := by decide +kernel
theorem i_213_50 : t_ins 213 50 = some (.ireturn) := by decide +kernel
theorem i_213_51 : t_ins 213 51 = some (.aload_n 0) := by decide +kernel
theorem i_213_52 : t_ins 213 52 = some (.iload_n 1) := by decide +kernel
theorem i_213_53 : t_ins 213 53 = some (.invokevirtual 301) := by decide +kernel
theorem i_213_56 : t_ins 213 56 = some (.iconst 0) := by decide +kernel
theorem i_213_57 : t_ins 213 57 = some (.istore_n 3) := by decide +kernel
theorem i_213_58 : t_ins 213 58 = some (.iconst (-1)) := by decide +kernel
theorem i_213_59 : t_ins 213 59 = some (.istore 4) := by decide +kernel
theorem i_213_61 : t_ins 213 61 = some (.iconst 0) := by decide +kernel
theorem i_213_62 : t_ins 213 62 = some (.istore 5) := by decide +kernel
theorem i_213_64 : t_ins 213 64 = some (.iconst 0) := by decide +kernel
theorem i_213_65 : t_ins 213 65 = some (.istore 6) := by decide +kernel
theorem i_213_67 : t_ins 213 67 = some (.iconst 0) := by decide +kernel
theorem i_213_68 : t_ins 213 68 = some (.istore 7) := by decide +kernel
theorem i_213_70 : t_ins 213 70 = some (.iconst (-1)) := by decide +kernel
theorem i_213_71 : t_ins 213 71 = some (.istore 8) := by decide +kernel
theorem i_213_73 : t_ins 213 73 = some (.iconst 0) := by decide +kernel
theorem i_213_74 : t_ins 213 74 = some (.istore 9) := by decide +kernel
theorem i_213_76 : t_ins 213 76 = some (.iload 9) := by decide +kernel
theorem i_213_78 : t_ins 213 78 = some (.aload_n 0) := by decide +kernel
theorem i_213_79 : t_ins 213 79 = some (.getfield 36) := by decide +kernel
theorem i_213_82 : t_ins 213 82 = some (.if_icmp .gt 95) := by decide +kernel
theorem i_213_85 : t_ins 213 85 = some (.aload_n 0) := by decide +kernel
theorem i_213_86 : t_ins 213 86 = some (.getfield 61) := by decide +kernel
theorem i_213_89 : t_ins 213 89 = some (.iload 9) := by decide +kernel
theorem i_213_91 : t_ins 213 91 = some (.iaload) := by decide +kernel
theorem i_213_92 : t_ins 213 92 = some (.iconst (-1)) := by decide +kernel
theorem i_213_93 : t_ins 213 93 = some (.if_icmp .ne 10) := by decide +kernel
theorem i_213_96 : t_ins 213 96 = some (.iload 6) := by decide +kernel
theorem i_213_98 : t_ins 213 98 = some (.iconst 1) := by decide +kernel
theorem i_213_99 : t_ins 213 99 = some (.iadd) := by decide +kernel
theorem i_213_100 : t_ins 213 100 = some (.goto 4) := by decide +kernel
theorem i_213_103 : t_ins 213 103 = some (.iconst 0) := by decide +kernel
theorem i_213_104 : t_ins 213 104 = some (.istore 6) := by decide +kernel
theorem i_213_106 : t_ins 213 106 = some (.iload 6) := by decide +kernel
theorem i_213_108 : t_ins 213 108 = some (.ifCond .ne 6) := by decide +kernel
theorem i_213_111 : t_ins 213 111 = some (.goto 60) := by decide +kernel
theorem i_213_114 : t_ins 213 114 = some (.iinc 3 1) := by decide +kernel
theorem i_213_117 : t_ins 213 117 = some (.iload 4) := by decide +kernel
theorem i_213_119 : t_ins 213 119 = some (.iconst (-1)) := by decide +kernel
theorem i_213_120 : t_ins 213 120 = some (.if_icmp .ne 8) := by decide +kernel
theorem i_213_123 : t_ins 213 123 = some (.iload 9) := by decide +kernel
theorem i_213_125 : t_ins 213 125 = some (.goto 5) := by decide +kernel
theorem i_213_128 : t_ins 213 128 = some (.iload 4) := by decide +kernel
theorem i_213_130 : t_ins 213 130 = some (.istore 4) := by decide +kernel
theorem i_213_132 : t_ins 213 132 = some (.iload 5) := by decide +kernel
theorem i_213_134 : t_ins 213 134 = some (.iload 6) := by decide +kernel
theorem i_213_136 : t_ins 213 136 = some (.iconst 1) := by decide +kernel
theorem i_213_137 : t_ins 213 137 = some (.if_icmp .ne 7) := by decide +kernel
theorem i_213_140 : t_ins 213 140 = some (.iconst 1) := by decide +kernel
theorem i_213_141 : t_ins 213 141 = some (.goto 4) := by decide +kernel
theorem i_213_144 : t_ins 213 144 = some (.iconst 0) := by decide +kernel
theorem i_213_145 : t_ins 213 145 = some (.iadd) := by decide +kernel
theorem i_213_146 : t_ins 213 146 = some (.istore 5) := by decide +kernel
theorem i_213_148 : t_ins 213 148 = some (.iload 6) := by decide +kernel
theorem i_213_150 : t_ins 213 150 = some (.iload 7) := by decide +kernel
theorem i_213_152 : t_ins 213 152 = some (.if_icmp .gt 6) := by decide +kernel
theorem i_213_155 : t_ins 213 155 = some (.goto 16) := by decide +kernel
theorem i_213_158 : t_ins 213 158 = some (.iload 6) := by decide +kernel
theorem i_213_160 : t_ins 213 160 = some (.istore 7) := by decide +kernel
theorem i_213_162 : t_ins 213 162 = some (.iload 9) := by decide +kernel
theorem i_213_164 : t_ins 213 164 = some (.iload 6) := by decide +kernel
theorem i_213_166 : t_ins 213 166 = some (.isub) := by decide +kernel
theorem i_213_167 : t_ins 213 167 = some (.iconst 1) := by decide +kernel
theorem i_213_168 : t_ins 213 168 = some (.iadd) := by decide +kernel
theorem i_213_169 : t_ins 213 169 = some (.istore 8) := by decide +kernel
theorem i_213_171 : t_ins 213 171 = some (.iinc 9 1) := by decide +kernel
theorem i_213_174 : t_ins 213 174 = some (.goto (-98)) := by decide +kernel
theorem i_213_177 : t_ins 213 177 = some (.iload_n 2) := by decide +kernel
theorem i_213_178 : t_ins 213 178 = some (.ifCond .ne 7) := by decide +kernel
theorem i_213_181 : t_ins 213 181 = some (.iload_n 3) := by decide +kernel
theorem i_213_182 : t_ins 213 182 = some (.goto 35) := by decide +kernel
theorem i_213_185 : t_ins 213 185 = some (.iload_n 2) := by decide +kernel
theorem i_213_186 : t_ins 213 186 = some (.iconst 1) := by decide +kernel
theorem i_213_187 : t_ins 213 187 = some (.if_icmp .ne 8) := by decide +kernel
theorem i_213_190 : t_ins 213 190 = some (.iload 4) := by decide +kernel
theorem i_213_192 : t_ins 213 192 = some (.goto 25) := by decide +kernel
theorem i_213_195 : t_ins 213 195 = some (.iload_n 2) := by decide +kernel
theorem i_213_196 : t_ins 213 196 = some (.iconst 2) := by decide +kernel
theorem i_213_197 : t_ins 213 197 = some (.if_icmp .ne 8) := by decide +kernel
theorem i_213_200 : t_ins 213 200 = some (.iload 5) := by decide +kernel
theorem i_213_202 : t_ins 213 202 = some (.goto 15) := by decide +kernel
theorem i_213_205 : t_ins 213 205 = some (.iload_n 2) := by decide +kernel
theorem i_213_206 : t_ins 213 206 = some (.iconst 3) := by decide +kernel
theorem i_213_207 : t_ins 213 207 = some (.if_icmp .ne 8) := by decide +kernel
theorem i_213_210 : t_ins 213 210 = some (.iload 7) := by decide +kernel
theorem i_213_212 : t_ins 213 212 = some (.goto 5) := by decide +kernel
theorem i_213_215 : t_ins 213 215 = some (.iload 8) := by decide +kernel
theorem i_213_217 : t_ins 213 217 = some (.ireturn) := by decide +kernel
theorem q_213_0 : XX d 213 0 [some (.ref a), v1, v2, v3, v4, v5, v6, v7, v8, v9] st A Q ↔ XX d 213 1 [some (.ref a), v1, v2, v3, v4, v5, v6, v7, v8, v9] (.ref a :: st) A Q := c_lcl i_213_0 rfl rfl
theorem q_213_1 : XX d 213 1 [v0, v1, v2, v3, v4, v5, v6, v7, v8, v9] st A Q ↔ XX d 213 2 [v0, v1, v2, v3, v4, v5, v6, v7, v8, v9] (.int (w 0) :: st) A Q := c_stk i_213_1 rfl
theorem q_213_2 : XX d 213 2 [v0, v1, v2, v3, v4, v5, v6, v7, v8, v9] (.int x :: .ref a :: st) (mk S I L R G) Q ↔ S a = some (.inr 12) ∧ XX d 213 5 [v0, v1, v2, v3, v4, v5, v6, v7, v8, v9] st (mk S (wr I a (up (I a) 0 x)) L R G) Q := r_pf i_213_2 rfl (by decide) rfl rfl rfl
theorem q_213_5 : XX d 213 5 [some (.ref a), v1, v2, v3, v4, v5, v6, v7, v8, v9] st A Q ↔ XX d 213 6 [some (.ref a), v1, v2, v3, v4, v5, v6, v7, v8, v9] (.ref a :: st) A Q := c_lcl i_213_5 rfl rfl
theorem q_213_6 : XX d 213 6 [v0, some (.int x), v2, v3, v4, v5, v6, v7, v8, v9] st A Q ↔ XX d 213 7 [v0, some (.int x), v2, v3, v4, v5, v6, v7, v8, v9] (.int x :: st) A Q := c_lcl i_213_6 rfl rfl
theorem q_213_7 : XX (d + 1) 213 7 [v0, v1, v2, v3, v4, v5, v6, v7, v8, v9] [.int x0, .ref a1] A Q ↔ XC d 182 [.int x0] A (XK (d + 1) 213 7 [v0, v1, v2, v3, v4, v5, v6, v7, v8, v9] [.ref a1] Q) := c_callS i_213_7 rfl rfl rfl rfl (Nat.le_of_ble_eq_true rfl) (Nat.le_of_ble_eq_true rfl)
theorem q_213_10 : XX d 213 10 [v0, v1, v2, v3, v4, v5, v6, v7, v8, v9] (.int x :: st) A Q ↔ if x = w 0 then XX d 213 13 [v0, v1, v2, v3, v4, v5, v6, v7, v8, v9] st A Q else XX d 213 17 [v0, v1, v2, v3, v4, v5, v6, v7, v8, v9] st A Q := z_ne i_213_10 rfl rfl rfl
theorem q_213_13 : XX d 213 13 [v0, v1, v2, v3, v4, v5, v6, v7, v8, v9] st A Q ↔ XX d 213 14 [v0, v1, v2, v3, v4, v5, v6, v7, v8, v9] (.int (w 1) :: st) A Q := c_stk i_213_13 rfl
theorem q_213_14 : XX d 213 14 [v0, v1, v2, v3, v4, v5, v6, v7, v8, v9] st A Q ↔ XX d 213 18 [v0, v1, v2, v3, v4, v5, v6, v7, v8, v9] st A Q := c_go i_213_14 rfl rfl
theorem q_213_17 : XX d 213 17 [v0, v1, v2, v3, v4, v5, v6, v7, v8, v9] st A Q ↔ XX d 213 18 [v0, v1, v2, v3, v4, v5, v6, v7, v8, v9] (.int (w 0) :: st) A Q := c_stk i_213_17 rfl
theorem q_213_18 : XX d 213 18 [v0, v1, v2, v3, v4, v5, v6, v7, v8, v9] st A Q ↔ XX d 213 19 [v0, v1, v2, v3, v4, v5, v6, v7, v8, v9] (.int (w 1) :: st) A Q := c_stk i_213_18 rfl
theorem q_213_19 : XX d 213 19 [v0, v1, v2, v3, v4, v5, v6, v7, v8, v9] st A Q ↔ XX d 213 20 [v0, v1, v2, v3, v4, v5, v6, v7, v8, v9] (.int (w 0) :: st) A Q := c_stk i_213_19 rfl
theorem q_213_20 : XX (d + 1) 213 20 [v0, v1, v2, v3, v4, v5, v6, v7, v8, v9] [.int x3, .int x2, .int x1, .ref a0] (mk S I L R G) Q ↔ S a0 = some (.inr 12) ∧ XC d 154 [.ref a0, .int x1, .int x2, .int x3] (mk S I L R G) (XK (d + 1) 213 20 [v0, v1, v2, v3, v4, v5, v6, v7, v8, v9] [] Q) := c_callV i_213_20 rfl rfl rfl rfl (Nat.le_of_ble_eq_true rfl) (Nat.le_of_ble_eq_true rfl) rfl
theorem q_213_23 : XX d 213 23 [v0, v1, v2, v3, v4, v5, v6, v7, v8, v9] (.int x :: st) A Q ↔ if x = w 0 then XX d 213 26 [v0, v1, v2, v3, v4, v5, v6, v7, v8, v9] st A Q else XX d 213 49 [v0, v1, v2, v3, v4, v5, v6, v7, v8, v9] st A Q := z_ne i_213_23 rfl rfl rfl
theorem q_213_26 : XX d 213 26 [some (.ref a), v1, v2, v3, v4, v5, v6, v7, v8, v9] st A Q ↔ XX d 213 27 [some (.ref a), v1, v2, v3, v4, v5, v6, v7, v8, v9] (.ref a :: st) A Q := c_lcl i_213_26 rfl rfl
theorem q_213_27 : XX d 213 27 [v0, v1, some (.int x), v3, v4, v5, v6, v7, v8, v9] st A Q ↔ XX d 213 28 [v0, v1, some (.int x), v3, v4, v5, v6, v7, v8, v9] (.int x :: st) A Q := c_lcl i_213_27 rfl rfl
theorem q_213_28 : XX d 213 28 [v0, v1, v2, v3, v4, v5, v6, v7, v8, v9] st A Q ↔ XX d 213 29 [v0, v1, v2, v3, v4, v5, v6, v7, v8, v9] (.int (w 0) :: st) A Q := c_stk i_213_28 rfl
theorem q_213_29 : XX d 213 29 [v0, v1, v2, v3, v4, v5, v6, v7, v8, v9] st A Q ↔ XX d 213 30 [v0, v1, v2, v3, v4, v5, v6, v7, v8, v9] (.int (w 4) :: st) A Q := c_stk i_213_29 rfl
theorem q_213_30 : XX (d + 1) 213 30 [v0, v1, v2, v3, v4, v5, v6, v7, v8, v9] [.int x2, .int x1, .int x0, .ref a3] A Q ↔ XC d 155 [.int x0, .int x1, .int x2] A (XK (d + 1) 213 30 [v0, v1, v2, v3, v4, v5, v6, v7, v8, v9] [.ref a3] Q) := c_callS i_213_30 rfl rfl rfl rfl (Nat.le_of_ble_eq_true rfl) (Nat.le_of_ble_eq_true rfl)
theorem q_213_33 : XX d 213 33 [v0, v1, v2, v3, v4, v5, v6, v7, v8, v9] (.int x :: st) A Q ↔ if x = w 0 then XX d 213 36 [v0, v1, v2, v3, v4, v5, v6, v7, v8, v9] st A Q else XX d 213 40 [v0, v1, v2, v3, v4, v5, v6, v7, v8, v9] st A Q := z_ne i_213_33 rfl rfl rfl
theorem q_213_36 : XX d 213 36 [v0, v1, v2, v3, v4, v5, v6, v7, v8, v9] st A Q ↔ XX d 213 37 [v0, v1, v2, v3, v4, v5, v6, v7, v8, v9] (.int (w 1) :: st) A Q := c_stk i_213_36 rfl
theorem q_213_37 : XX d 213 37 [v0, v1, v2, v3, v4, v5, v6, v7, v8, v9] st A Q ↔ XX d 213 41 [v0, v1, v2, v3, v4, v5, v6, v7, v8, v9] st A Q := c_go i_213_37 rfl rfl
theorem q_213_40 : XX d 213 40 [v0, v1, v2, v3, v4, v5, v6, v7, v8, v9] st A Q ↔ XX d 213 41 [v0, v1, v2, v3, v4, v5, v6, v7, v8, v9] (.int (w 0) :: st) A Q := c_stk i_213_40 rfl
theorem q_213_41 : XX d 213 41 [v0, v1, v2, v3, v4, v5, v6, v7, v8, v9] st A Q ↔ XX d 213 42 [v0, v1, v2, v3, v4, v5, v6, v7, v8, v9] (.int (w 2) :: st) A Q := c_stk i_213_41 rfl
theorem q_213_42 : XX d 213 42 [v0, v1, v2, v3, v4, v5, v6, v7, v8, v9] st A Q ↔ XX d 213 43 [v0, v1, v2, v3, v4, v5, v6, v7, v8, v9] (.int (w 1) :: st) A Q := c_stk i_213_42 rfl
theorem q_213_43 : XX (d + 1) 213 43 [v0, v1, v2, v3, v4, v5, v6, v7, v8, v9] [.int x3, .int x2, .int x1, .ref a0] (mk S I L R G) Q ↔ S a0 = some (.inr 12) ∧ XC d 154 [.ref a0, .int x1, .int x2, .int x3] (mk S I L R G) (XK (d + 1) 213 43 [v0, v1, v2, v3, v4, v5, v6, v7, v8, v9] [] Q) := c_callV i_213_43 rfl rfl rfl rfl (Nat.le_of_ble_eq_true rfl) (Nat.le_of_ble_eq_true rfl) rfl
theorem q_213_46 : XX d 213 46 [v0, v1, v2, v3, v4, v5, v6, v7, v8, v9] (.int x :: st) A Q ↔ if x = w 0 then XX d 213 51 [v0, v1, v2, v3, v4, v5, v6, v7, v8, v9] st A Q else XX d 213 49 [v0, v1, v2, v3, v4, v5, v6, v7, v8, v9] st A Q := z_eq i_213_46 rfl rfl rfl
theorem q_213_49 : XX d 213 49 [v0, v1, v2, v3, v4, v5, v6, v7, v8, v9] st A Q ↔ XX d 213 50 [v0, v1, v2, v3, v4, v5, v6, v7, v8, v9] (.int (w 0) :: st) A Q := c_stk i_213_49 rfl
theorem q_213_50 : XX d 213 50 [v0, v1, v2, v3, v4, v5, v6, v7, v8, v9] [.int x] A Q ↔ Q (.inl (some (.int x))) A := e_retI i_213_50 rfl
theorem q_213_51 : XX d 213 51 [some (.ref a), v1, v2, v3, v4, v5, v6, v7, v8, v9] st A Q ↔ XX d 213 52 [some (.ref a), v1, v2, v3, v4, v5, v6, v7, v8, v9] (.ref a :: st) A Q := c_lcl i_213_51 rfl rfl
theorem q_213_52 : XX d 213 52 [v0, some (.int x), v2, v3, v4, v5, v6, v7, v8, v9] st A Q ↔ XX d 213 53 [v0, some (.int x), v2, v3, v4, v5, v6, v7, v8, v9] (.int x :: st) A Q := c_lcl i_213_52 rfl rfl
theorem q_213_53 : XX (d + 1) 213 53 [v0, v1, v2, v3, v4, v5, v6, v7, v8, v9] [.int x1, .ref a0] (mk S I L R G) Q ↔ S a0 = some (.inr 12) ∧ XC d 194 [.ref a0, .int x1] (mk S I L R G) (XK (d + 1) 213 53 [v0, v1, v2, v3, v4, v5, v6, v7, v8, v9] [] Q) := c_callV i_213_53 rfl rfl rfl rfl (Nat.le_of_ble_eq_true rfl) (Nat.le_of_ble_eq_true rfl) rfl
theorem q_213_56 : XX d 213 56 [v0, v1, v2, v3, v4, v5, v6, v7, v8, v9] st A Q ↔ XX d 213 57 [v0, v1, v2, v3, v4, v5, v6, v7, v8, v9] (.int (w 0) :: st) A Q := c_stk i_213_56 rfl
theorem q_213_57 : XX d 213 57 [v0, v1, some (.int z), v3, v4, v5, v6, v7, v8, v9] (.int x :: st) A Q ↔ XX d 213 58 [v0, v1, some (.int z), some (.int x), v4, v5, v6, v7, v8, v9] st A Q := c_lcl i_213_57 rfl rfl
theorem q_213_58 : XX d 213 58 [v0, v1, v2, v3, v4, v5, v6, v7, v8, v9] st A Q ↔ XX d 213 59 [v0, v1, v2, v3, v4, v5, v6, v7, v8, v9] (.int (w (-1)) :: st) A Q := c_stk i_213_58 rfl
theorem q_213_59 : XX d 213 59 [v0, v1, v2, some (.int z), v4, v5, v6, v7, v8, v9] (.int x :: st) A Q ↔ XX d 213 61 [v0, v1, v2, some (.int z), some (.int x), v5, v6, v7, v8, v9] st A Q := c_lcl i_213_59 rfl rfl
theorem q_213_61 : XX d 213 61 [v0, v1, v2, v3, v4, v5, v6, v7, v8, v9] st A Q ↔ XX d 213 62 [v0, v1, v2, v3, v4, v5, v6, v7, v8, v9] (.int (w 0) :: st) A Q := c_stk i_213_61 rfl
theorem q_213_62 : XX d 213 62 [v0, v1, v2, v3, some (.int z), v5, v6, v7, v8, v9] (.int x :: st) A Q ↔ XX d 213 64 [v0, v1, v2, v3, some (.int z), some (.int x), v6, v7, v8, v9] st A Q := c_lcl i_213_62 rfl rfl
theorem q_213_64 : XX d 213 64 [v0, v1, v2, v3, v4, v5, v6, v7, v8, v9] st A Q ↔ XX d 213 65 [v0, v1, v2, v3, v4, v5, v6, v7, v8, v9] (.int (w 0) :: st) A Q := c_stk i_213_64 rfl
theorem q_213_65 : XX d 213 65 [v0, v1, v2, v3, v4, some (.int z), v6, v7, v8, v9] (.int x :: st) A Q ↔ XX d 213 67 [v0, v1, v2, v3, v4, some (.int z), some (.int x), v7, v8, v9] st A Q := c_lcl i_213_65 rfl rfl
theorem q_213_67 : XX d 213 67 [v0, v1, v2, v3, v4, v5, v6, v7, v8, v9] st A Q ↔ XX d 213 68 [v0, v1, v2, v3, v4, v5, v6, v7, v8, v9] (.int (w 0) :: st) A Q := c_stk i_213_67 rfl
theorem q_213_68 : XX d 213 68 [v0, v1, v2, v3, v4, v5, some (.int z), v7, v8, v9] (.int x :: st) A Q ↔ XX d 213 70 [v0, v1, v2, v3, v4, v5, some (.int z), some (.int x), v8, v9] st A Q := c_lcl i_213_68 rfl rfl
theorem q_213_70 : XX d 213 70 [v0, v1, v2, v3, v4, v5, v6, v7, v8, v9] st A Q ↔ XX d 213 71 [v0, v1, v2, v3, v4, v5, v6, v7, v8, v9] (.int (w (-1)) :: st) A Q := c_stk i_213_70 rfl
theorem q_213_71 : XX d 213 71 [v0, v1, v2, v3, v4, v5, v6, some (.int z), v8, v9] (.int x :: st) A Q ↔ XX d 213 73 [v0, v1, v2, v3, v4, v5, v6, some (.int z), some (.int x), v9] st A Q := c_lcl i_213_71 rfl rfl
theorem q_213_73 : XX d 213 73 [v0, v1, v2, v3, v4, v5, v6, v7, v8, v9] st A Q ↔ XX d 213 74 [v0, v1, v2, v3, v4, v5, v6, v7, v8, v9] (.int (w 0) :: st) A Q := c_stk i_213_73 rfl
theorem q_213_74 : XX d 213 74 [v0, v1, v2, v3, v4, v5, v6, v7, some (.int z), v9] (.int x :: st) A Q ↔ XX d 213 76 [v0, v1, v2, v3, v4, v5, v6, v7, some (.int z), some (.int x)] st A Q := c_lcl i_213_74 rfl rfl
theorem q_213_76 : XX d 213 76 [v0, v1, v2, v3, v4, v5, v6, v7, v8, some (.int x)] st A Q ↔ XX d 213 78 [v0, v1, v2, v3, v4, v5, v6, v7, v8, some (.int x)] (.int x :: st) A Q := c_lcl i_213_76 rfl rfl
theorem q_213_78 : XX d 213 78 [some (.ref a), v1, v2, v3, v4, v5, v6, v7, v8, v9] st A Q ↔ XX d 213 79 [some (.ref a), v1, v2, v3, v4, v5, v6, v7, v8, v9] (.ref a :: st) A Q := c_lcl i_213_78 rfl rfl
theorem q_213_79 : XX d 213 79 [v0, v1, v2, v3, v4, v5, v6, v7, v8, v9] (.ref a :: st) (mk S I L R G) Q ↔ S a = some (.inr 12) ∧ XX d 213 82 [v0, v1, v2, v3, v4, v5, v6, v7, v8, v9] (.int (I a 13) :: st) (mk S I L R G) Q := r_gf i_213_79 rfl (by decide) rfl
theorem q_213_82 : XX d 213 82 [v0, v1, v2, v3, v4, v5, v6, v7, v8, v9] (.int y :: .int x :: st) A Q ↔ if y < x then XX d 213 177 [v0, v1, v2, v3, v4, v5, v6, v7, v8, v9] st A Q else XX d 213 85 [v0, v1, v2, v3, v4, v5, v6, v7, v8, v9] st A Q := b_gt i_213_82 rfl rfl rfl
theorem q_213_85 : XX d 213 85 [some (.ref a), v1, v2, v3, v4, v5, v6, v7, v8, v9] st A Q ↔ XX d 213 86 [some (.ref a), v1, v2, v3, v4, v5, v6, v7, v8, v9] (.ref a :: st) A Q := c_lcl i_213_85 rfl rfl
theorem q_213_86 : XX d 213 86 [v0, v1, v2, v3, v4, v5, v6, v7, v8, v9] (.ref a :: st) (mk S I L R G) Q ↔ S a = some (.inr 12) ∧ XX d 213 89 [v0, v1, v2, v3, v4, v5, v6, v7, v8, v9] (.ref (a + 6579) :: st) (mk S I L R G) Q := r_gf i_213_86 rfl (by decide) rfl
theorem q_213_89 : XX d 213 89 [v0, v1, v2, v3, v4, v5, v6, v7, v8, some (.int x)] st A Q ↔ XX d 213 91 [v0, v1, v2, v3, v4, v5, v6, v7, v8, some (.int x)] (.int x :: st) A Q := c_lcl i_213_89 rfl rfl
theorem q_213_91 : XX d 213 91 [v0, v1, v2, v3, v4, v5, v6, v7, v8, v9] (.int x :: .ref a :: st) (mk S I L R G) Q ↔ inA (S a) ok_i x ∧ XX d 213 92 [v0, v1, v2, v3, v4, v5, v6, v7, v8, v9] (.int (I a (ix x)) :: st) (mk S I L R G) Q := r_ia i_213_91
theorem q_213_92 : XX d 213 92 [v0, v1, v2, v3, v4, v5, v6, v7, v8, v9] st A Q ↔ XX d 213 93 [v0, v1, v2, v3, v4, v5, v6, v7, v8, v9] (.int (w (-1)) :: st) A Q := c_stk i_213_92 rfl
theorem q_213_93 : XX d 213 93 [v0, v1, v2, v3, v4, v5, v6, v7, v8, v9] (.int y :: .int x :: st) A Q ↔ if x = y then XX d 213 96 [v0, v1, v2, v3, v4, v5, v6, v7, v8, v9] st A Q else XX d 213 103 [v0, v1, v2, v3, v4, v5, v6, v7, v8, v9] st A Q := b_ne i_213_93 rfl rfl rfl
theorem q_213_96 : XX d 213 96 [v0, v1, v2, v3, v4, v5, some (.int x), v7, v8, v9] st A Q ↔ XX d 213 98 [v0, v1, v2, v3, v4, v5, some (.int x), v7, v8, v9] (.int x :: st) A Q := c_lcl i_213_96 rfl rfl
theorem q_213_98 : XX d 213 98 [v0, v1, v2, v3, v4, v5, v6, v7, v8, v9] st A Q ↔ XX d 213 99 [v0, v1, v2, v3, v4, v5, v6, v7, v8, v9] (.int (w 1) :: st) A Q := c_stk i_213_98 rfl
theorem q_213_99 : XX d 213 99 [v0, v1, v2, v3, v4, v5, v6, v7, v8, v9] (.int y :: .int x :: st) A Q ↔ XX d 213 100 [v0, v1, v2, v3, v4, v5, v6, v7, v8, v9] (.int (x + y) :: st) A Q := c_stk i_213_99 rfl
theorem q_213_100 : XX d 213 100 [v0, v1, v2, v3, v4, v5, v6, v7, v8, v9] st A Q ↔ XX d 213 104 [v0, v1, v2, v3, v4, v5, v6, v7, v8, v9] st A Q := c_go i_213_100 rfl rfl
theorem q_213_103 : XX d 213 103 [v0, v1, v2, v3, v4, v5, v6, v7, v8, v9] st A Q ↔ XX d 213 104 [v0, v1, v2, v3, v4, v5, v6, v7, v8, v9] (.int (w 0) :: st) A Q := c_stk i_213_103 rfl
theorem q_213_104 : XX d 213 104 [v0, v1, v2, v3, v4, some (.int z), v6, v7, v8, v9] (.int x :: st) A Q ↔ XX d 213 106 [v0, v1, v2, v3, v4, some (.int z), some (.int x), v7, v8, v9] st A Q := c_lcl i_213_104 rfl rfl
theorem q_213_106 : XX d 213 106 [v0, v1, v2, v3, v4, v5, some (.int x), v7, v8, v9] st A Q ↔ XX d 213 108 [v0, v1, v2, v3, v4, v5, some (.int x), v7, v8, v9] (.int x :: st) A Q := c_lcl i_213_106 rfl rfl
theorem q_213_108 : XX d 213 108 [v0, v1, v2, v3, v4, v5, v6, v7, v8, v9] (.int x :: st) A Q ↔ if x = w 0 then XX d 213 111 [v0, v1, v2, v3, v4, v5, v6, v7, v8, v9] st A Q else XX d 213 114 [v0, v1, v2, v3, v4, v5, v6, v7, v8, v9] st A Q := z_ne i_213_108 rfl rfl rfl
theorem q_213_111 : XX d 213 111 [v0, v1, v2, v3, v4, v5, v6, v7, v8, v9] st A Q ↔ XX d 213 171 [v0, v1, v2, v3, v4, v5, v6, v7, v8, v9] st A Q := c_go i_213_111 rfl rfl
theorem q_213_114 : XX d 213 114 [v0, v1, some (.int z), some (.int x), v4, v5, v6, v7, v8, v9] st A Q ↔ XX d 213 117 [v0, v1, some (.int z), some (.int (x + w 1)), v4, v5, v6, v7, v8, v9] st A Q := c_lcl i_213_114 rfl rfl
theorem q_213_117 : XX d 213 117 [v0, v1, v2, v3, some (.int x), v5, v6, v7, v8, v9] st A Q ↔ XX d 213 119 [v0, v1, v2, v3, some (.int x), v5, v6, v7, v8, v9] (.int x :: st) A Q := c_lcl i_213_117 rfl rfl
theorem q_213_119 : XX d 213 119 [v0, v1, v2, v3, v4, v5, v6, v7, v8, v9] st A Q ↔ XX d 213 120 [v0, v1, v2, v3, v4, v5, v6, v7, v8, v9] (.int (w (-1)) :: st) A Q := c_stk i_213_119 rfl
theorem q_213_120 : XX d 213 120 [v0, v1, v2, v3, v4, v5, v6, v7, v8, v9] (.int y :: .int x :: st) A Q ↔ if x = y then XX d 213 123 [v0, v1, v2, v3, v4, v5, v6, v7, v8, v9] st A Q else XX d 213 128 [v0, v1, v2, v3, v4, v5, v6, v7, v8, v9] st A Q := b_ne i_213_120 rfl rfl rfl
theorem q_213_123 : XX d 213 123 [v0, v1, v2, v3, v4, v5, v6, v7, v8, some (.int x)] st A Q ↔ XX d 213 125 [v0, v1, v2, v3, v4, v5, v6, v7, v8, some (.int x)] (.int x :: st) A Q := c_lcl i_213_123 rfl rfl
theorem q_213_125 : XX d 213 125 [v0, v1, v2, v3, v4, v5, v6, v7, v8, v9] st A Q ↔ XX d 213 130 [v0, v1, v2, v3, v4, v5, v6, v7, v8, v9] st A Q := c_go i_213_125 rfl rfl
theorem q_213_128 : XX d 213 128 [v0, v1, v2, v3, some (.int x), v5, v6, v7, v8, v9] st A Q ↔ XX d 213 130 [v0, v1, v2, v3, some (.int x), v5, v6, v7, v8, v9] (.int x :: st) A Q := c_lcl i_213_128 rfl rfl
theorem q_213_130 : XX d 213 130 [v0, v1, v2, some (.int z), v4, v5, v6, v7, v8, v9] (.int x :: st) A Q ↔ XX d 213 132 [v0, v1, v2, some (.int z), some (.int x), v5, v6, v7, v8, v9] st A Q := c_lcl i_213_130 rfl rfl
theorem q_213_132 : XX d 213 132 [v0, v1, v2, v3, v4, some (.int x), v6, v7, v8, v9] st A Q ↔ XX d 213 134 [v0, v1, v2, v3, v4, some (.int x), v6, v7, v8, v9] (.int x :: st) A Q := c_lcl i_213_132 rfl rfl
theorem q_213_134 : XX d 213 134 [v0, v1, v2, v3, v4, v5, some (.int x), v7, v8, v9] st A Q ↔ XX d 213 136 [v0, v1, v2, v3, v4, v5, some (.int x), v7, v8, v9] (.int x :: st) A Q := c_lcl i_213_134 rfl rfl
theorem q_213_136 : XX d 213 136 [v0, v1, v2, v3, v4, v5, v6, v7, v8, v9] st A Q ↔ XX d 213 137 [v0, v1, v2, v3, v4, v5, v6, v7, v8, v9] (.int (w 1) :: st) A Q := c_stk i_213_136 rfl
theorem q_213_137 : XX d 213 137 [v0, v1, v2, v3, v4, v5, v6, v7, v8, v9] (.int y :: .int x :: st) A Q ↔ if x = y then XX d 213 140 [v0, v1, v2, v3, v4, v5, v6, v7, v8, v9] st A Q else XX d 213 144 [v0, v1, v2, v3, v4, v5, v6, v7, v8, v9] st A Q := b_ne i_213_137 rfl rfl rfl
theorem q_213_140 : XX d 213 140 [v0, v1, v2, v3, v4, v5, v6, v7, v8, v9] st A Q ↔ XX d 213 141 [v0, v1, v2, v3, v4, v5, v6, v7, v8, v9] (.int (w 1) :: st) A Q := c_stk i_213_140 rfl
theorem q_213_141 : XX d 213 141 [v0, v1, v2, v3, v4, v5, v6, v7, v8, v9] st A Q ↔ XX d 213 145 [v0, v1, v2, v3, v4, v5, v6, v7, v8, v9] st A Q := c_go i_213_141 rfl rfl
theorem q_213_144 : XX d 213 144 [v0, v1, v2, v3, v4, v5, v6, v7, v8, v9] st A Q ↔ XX d 213 145 [v0, v1, v2, v3, v4, v5, v6, v7, v8, v9] (.int (w 0) :: st) A Q := c_stk i_213_144 rfl
theorem q_213_145 : XX d 213 145 [v0, v1, v2, v3, v4, v5, v6, v7, v8, v9] (.int y :: .int x :: st) A Q ↔ XX d 213 146 [v0, v1, v2, v3, v4, v5, v6, v7, v8, v9] (.int (x + y) :: st) A Q := c_stk i_213_145 rfl
theorem q_213_146 : XX d 213 146 [v0, v1, v2, v3, some (.int z), v5, v6, v7, v8, v9] (.int x :: st) A Q ↔ XX d 213 148 [v0, v1, v2, v3, some (.int z), some (.int x), v6, v7, v8, v9] st A Q := c_lcl i_213_146 rfl rfl
theorem q_213_148 : XX d 213 148 [v0, v1, v2, v3, v4, v5, some (.int x), v7, v8, v9] st A Q ↔ XX d 213 150 [v0, v1, v2, v3, v4, v5, some (.int x), v7, v8, v9] (.int x :: st) A Q := c_lcl i_213_148 rfl rfl
theorem q_213_150 : XX d 213 150 [v0, v1, v2, v3, v4, v5, v6, some (.int x), v8, v9] st A Q ↔ XX d 213 152 [v0, v1, v2, v3, v4, v5, v6, some (.int x), v8, v9] (.int x :: st) A Q := c_lcl i_213_150 rfl rfl
theorem q_213_152 : XX d 213 152 [v0, v1, v2, v3, v4, v5, v6, v7, v8, v9] (.int y :: .int x :: st) A Q ↔ if y < x then XX d 213 158 [v0, v1, v2, v3, v4, v5, v6, v7, v8, v9] st A Q else XX d 213 155 [v0, v1, v2, v3, v4, v5, v6, v7, v8, v9] st A Q := b_gt i_213_152 rfl rfl rfl
theorem q_213_155 : XX d 213 155 [v0, v1, v2, v3, v4, v5, v6, v7, v8, v9] st A Q ↔ XX d 213 171 [v0, v1, v2, v3, v4, v5, v6, v7, v8, v9] st A Q := c_go i_213_155 rfl rfl
theorem q_213_158 : XX d 213 158 [v0, v1, v2, v3, v4, v5, some (.int x), v7, v8, v9] st A Q ↔ XX d 213 160 [v0, v1, v2, v3, v4, v5, some (.int x), v7, v8, v9] (.int x :: st) A Q := c_lcl i_213_158 rfl rfl
theorem q_213_160 : XX d 213 160 [v0, v1, v2, v3, v4, v5, some (.int z), v7, v8, v9] (.int x :: st) A Q ↔ XX d 213 162 [v0, v1, v2, v3, v4, v5, some (.int z), some (.int x), v8, v9] st A Q := c_lcl i_213_160 rfl rfl
theorem q_213_162 : XX d 213 162 [v0, v1, v2, v3, v4, v5, v6, v7, v8, some (.int x)] st A Q ↔ XX d 213 164 [v0, v1, v2, v3, v4, v5, v6, v7, v8, some (.int x)] (.int x :: st) A Q := c_lcl i_213_162 rfl rfl
theorem q_213_164 : XX d 213 164 [v0, v1, v2, v3, v4, v5, some (.int x), v7, v8, v9] st A Q ↔ XX d 213 166 [v0, v1, v2, v3, v4, v5, some (.int x), v7, v8, v9] (.int x :: st) A Q := c_lcl i_213_164 rfl rfl
theorem q_213_166 : XX d 213 166 [v0, v1, v2, v3, v4, v5, v6, v7, v8, v9] (.int y :: .int x :: st) A Q ↔ XX d 213 167 [v0, v1, v2, v3, v4, v5, v6, v7, v8, v9] (.int (x - y) :: st) A Q := c_stk i_213_166 rfl
theorem q_213_167 : XX d 213 167 [v0, v1, v2, v3, v4, v5, v6, v7, v8, v9] st A Q ↔ XX d 213 168 [v0, v1, v2, v3, v4, v5, v6, v7, v8, v9] (.int (w 1) :: st) A Q := c_stk i_213_167 rfl
theorem q_213_168 : XX d 213 168 [v0, v1, v2, v3, v4, v5, v6, v7, v8, v9] (.int y :: .int x :: st) A Q ↔ XX d 213 169 [v0, v1, v2, v3, v4, v5, v6, v7, v8, v9] (.int (x + y) :: st) A Q := c_stk i_213_168 rfl
theorem q_213_169 : XX d 213 169 [v0, v1, v2, v3, v4, v5, v6, some (.int z), v8, v9] (.int x :: st) A Q ↔ XX d 213 171 [v0, v1, v2, v3, v4, v5, v6, some (.int z), some (.int x), v9] st A Q := c_lcl i_213_169 rfl rfl
theorem q_213_171 : XX d 213 171 [v0, v1, v2, v3, v4, v5, v6, v7, some (.int z), some (.int x)] st A Q ↔ XX d 213 174 [v0, v1, v2, v3, v4, v5, v6, v7, some (.int z), some (.int (x + w 1))] st A Q := c_lcl i_213_171 rfl rfl
theorem q_213_174 : XX d 213 174 [v0, v1, v2, v3, v4, v5, v6, v7, v8, v9] st A Q ↔ XX d 213 76 [v0, v1, v2, v3, v4, v5, v6, v7, v8, v9] st A Q := c_go i_213_174 rfl rfl
theorem q_213_177 : XX d 213 177 [v0, v1, some (.int x), v3, v4, v5, v6, v7, v8, v9] st A Q ↔ XX d 213 178 [v0, v1, some (.int x), v3, v4, v5, v6, v7, v8, v9] (.int x :: st) A Q := c_lcl i_213_177 rfl rfl
theorem q_213_178 : XX d 213 178 [v0, v1, v2, v3, v4, v5, v6, v7, v8, v9] (.int x :: st) A Q ↔ if x = w 0 then XX d 213 181 [v0, v1, v2, v3, v4, v5, v6, v7, v8, v9] st A Q else XX d 213 185 [v0, v1, v2, v3, v4, v5, v6, v7, v8, v9] st A Q := z_ne i_213_178 rfl rfl rfl
theorem q_213_181 : XX d 213 181 [v0, v1, v2, some (.int x), v4, v5, v6, v7, v8, v9] st A Q ↔ XX d 213 182 [v0, v1, v2, some (.int x), v4, v5, v6, v7, v8, v9] (.int x :: st) A Q := c_lcl i_213_181 rfl rfl
theorem q_213_182 : XX d 213 182 [v0, v1, v2, v3, v4, v5, v6, v7, v8, v9] st A Q ↔ XX d 213 217 [v0, v1, v2, v3, v4, v5, v6, v7, v8, v9] st A Q := c_go i_213_182 rfl rfl
theorem q_213_185 : XX d 213 185 [v0, v1, some (.int x), v3, v4, v5, v6, v7, v8, v9] st A Q ↔ XX d 213 186 [v0, v1, some (.int x), v3, v4, v5, v6, v7, v8, v9] (.int x :: st) A Q := c_lcl i_213_185 rfl rfl
theorem q_213_186 : XX d 213 186 [v0, v1, v2, v3, v4, v5, v6, v7, v8, v9] st A Q ↔ XX d 213 187 [v0, v1, v2, v3, v4, v5, v6, v7, v8, v9] (.int (w 1) :: st) A Q := c_stk i_213_186 rfl
theorem q_213_187 : XX d 213 187 [v0, v1, v2, v3, v4, v5, v6, v7, v8, v9] (.int y :: .int x :: st) A Q ↔ if x = y then XX d 213 190 [v0, v1, v2, v3, v4, v5, v6, v7, v8, v9] st A Q else XX d 213 195 [v0, v1, v2, v3, v4, v5, v6, v7, v8, v9] st A Q := b_ne i_213_187 rfl rfl rfl
theorem q_213_190 : XX d 213 190 [v0, v1, v2, v3, some (.int x), v5, v6, v7, v8, v9] st A Q ↔ XX d 213 192 [v0, v1, v2, v3, some (.int x), v5, v6, v7, v8, v9] (.int x :: st) A Q := c_lcl i_213_190 rfl rfl
theorem q_213_192 : XX d 213 192 [v0, v1, v2, v3, v4, v5, v6, v7, v8, v9] st A Q ↔ XX d 213 217 [v0, v1, v2, v3, v4, v5, v6, v7, v8, v9] st A Q := c_go i_213_192 rfl rfl
theorem q_213_195 : XX d 213 195 [v0, v1, some (.int x), v3, v4, v5, v6, v7, v8, v9] st A Q ↔ XX d 213 196 [v0, v1, some (.int x), v3, v4, v5, v6, v7, v8, v9] (.int x :: st) A Q := c_lcl i_213_195 rfl rfl
theorem q_213_196 : XX d 213 196 [v0, v1, v2, v3, v4, v5, v6, v7, v8, v9] st A Q ↔ XX d 213 197 [v0, v1, v2, v3, v4, v5, v6, v7, v8, v9] (.int (w 2) :: st) A Q := c_stk i_213_196 rfl
theorem q_213_197 : XX d 213 197 [v0, v1, v2, v3, v4, v5, v6, v7, v8, v9] (.int y :: .int x :: st) A Q ↔ if x = y then XX d 213 200 [v0, v1, v2, v3, v4, v5, v6, v7, v8, v9] st A Q else XX d 213 205 [v0, v1, v2, v3, v4, v5, v6, v7, v8, v9] st A Q := b_ne i_213_197 rfl rfl rfl
theorem q_213_200 : XX d 213 200 [v0, v1, v2, v3, v4, some (.int x), v6, v7, v8, v9] st A Q ↔ XX d 213 202 [v0, v1, v2, v3, v4, some (.int x), v6, v7, v8, v9] (.int x :: st) A Q := c_lcl i_213_200 rfl rfl
theorem q_213_202 : XX d 213 202 [v0, v1, v2, v3, v4, v5, v6, v7, v8, v9] st A Q ↔ XX d 213 217 [v0, v1, v2, v3, v4, v5, v6, v7, v8, v9] st A Q := c_go i_213_202 rfl rfl
theorem q_213_205 : XX d 213 205 [v0, v1, some (.int x), v3, v4, v5, v6, v7, v8, v9] st A Q ↔ XX d 213 206 [v0, v1, some (.int x), v3, v4, v5, v6, v7, v8, v9] (.int x :: st) A Q := c_lcl i_213_205 rfl rfl
theorem q_213_206 : XX d 213 206 [v0, v1, v2, v3, v4, v5, v6, v7, v8, v9] st A Q ↔ XX d 213 207 [v0, v1, v2, v3, v4, v5, v6, v7, v8, v9] (.int (w 3) :: st) A Q := c_stk i_213_206 rfl
theorem q_213_207 : XX d 213 207 [v0, v1, v2, v3, v4, v5, v6, v7, v8, v9] (.int y :: .int x :: st) A Q ↔ if x = y then XX d 213 210 [v0, v1, v2, v3, v4, v5, v6, v7, v8, v9] st A Q else XX d 213 215 [v0, v1, v2, v3, v4, v5, v6, v7, v8, v9] st A Q := b_ne i_213_207 rfl rfl rfl
theorem q_213_210 : XX d 213 210 [v0, v1, v2, v3, v4, v5, v6, some (.int x), v8, v9] st A Q ↔ XX d 213 212 [v0, v1, v2, v3, v4, v5, v6, some (.int x), v8, v9] (.int x :: st) A Q := c_lcl i_213_210 rfl rfl
theorem q_213_212 : XX d 213 212 [v0, v1, v2, v3, v4, v5, v6, v7, v8, v9] st A Q ↔ XX d 213 217 [v0, v1, v2, v3, v4, v5, v6, v7, v8, v9] st A Q := c_go i_213_212 rfl rfl
theorem q_213_215 : XX d 213 215 [v0, v1, v2, v3, v4, v5, v6, v7, some (.int x), v9] st A Q ↔ XX d 213 217 [v0, v1, v2, v3, v4, v5, v6, v7, some (.int x), v9] (.int x :: st) A Q := c_lcl i_213_215 rfl rfl
theorem q_213_217 : XX d 213 217 [v0, v1, v2, v3, v4, v5, v6, v7, v8, v9] [.int x] A Q ↔ Q (.inl (some (.int x))) A := e_retI i_213_217 rfl
theorem q_213_e : XC d 213 [.ref a0, .int x1, .int x2] A Q ↔ XX d 213 0 [some (.ref a0), some (.int x1), some (.int x2), none, none, none, none, none, none, none] [] A Q := Iff.rfl
theorem i_214_0 : t_ins 214 0 = some (.iload_n 2) := by decide +kernel
theorem i_214_1 : t_ins 214 1 = some (.iload_n 1) := by decide +kernel
theorem i_214_2 : t_ins 214 2 = some (.isub) := by decide +kernel
theorem i_214_3 : t_ins 214 3 = some (.iconst 2) := by decide +kernel
theorem i_214_4 : t_ins 214 4 = some (.if_icmp .ge 4) := by decide +kernel
theorem i_214_7 : t_ins 214 7 = some (.return_) := by decide +kernel
theorem i_214_8 : t_ins 214 8 = some (.iload_n 1) := by decide +kernel
theorem i_214_9 : t_ins 214 9 = some (.iload_n 2) := by decide +kernel
theorem i_214_10 : t_ins 214 10 = some (.iadd) := by decide +kernel
theorem i_214_11 : t_ins 214 11 = some (.iconst 2) := by decide +kernel
theorem i_214_12 : t_ins 214 12 = some (.idiv) := by decide +kernel
theorem i_214_13 : t_ins 214 13 = some (.istore_n 3) := by decide +kernel
theorem i_214_14 : t_ins 214 14 = some (.iload_n 1) := by decide +kernel
theorem i_214_15 : t_ins 214 15 = some (.istore 4) := by decide +kernel
theorem i_214_17 : t_ins 214 17 = some (.iload_n 3) := by decide +kernel
theorem i_214_18 : t_ins 214 18 = some (.istore 5) := by decide +kernel
theorem i_214_20 : t_ins 214 20 = some (.aload_n 0) := by decide +kernel
theorem i_214_21 : t_ins 214 21 = some (.iload_n 1) := by decide +kernel
theorem i_214_22 : t_ins 214 22 = some (.iload_n 3) := by decide +kernel
theorem i_214_23 : t_ins 214 23 = some (.invokevirtual 327) := by decide +kernel
theorem i_214_26 : t_ins 214 26 = some (.aload_n 0) := by decide +kernel
theorem i_214_27 : t_ins 214 27 = some (.iload_n 3) := by decide +kernel
theorem i_214_28 : t_ins 214 28 = some (.iload_n 2) := by decide +kernel
theorem i_214_29 : t_ins 214 29 = some (.invokevirtual 327) := by decide +kernel
theorem i_214_32 : t_ins 214 32 = some (.iload_n 1) := by decide +kernel
theorem i_214_33 : t_ins 214 33 = some (.istore 6) := by decide +kernel
theorem i_214_35 : t_ins 214 35 = some (.iload 6) := by decide +kernel
theorem i_214_37 : t_ins 214 37 = some (.iload_n 2) := by decide +kernel
theorem i_214_38 : t_ins 214 38 = some (.if_icmp .ge 92) := by decide +kernel
theorem i_214_41 : t_ins 214 41 = some (.iload 5) := by decide +kernel
theorem i_214_43 : t_ins 214 43 = some (.iload_n 2) := by decide +kernel
theorem i_214_44 : t_ins 214 44 = some (.if_icmp .eq 30) := by decide +kernel
theorem i_214_47 : t_ins 214 47 = some (.iload 4) := by decide +kernel
theorem i_214_49 : t_ins 214 49 = some (.iload_n 3) := by decide +kernel
theorem i_214_50 : t_ins 214 50 = some (.if_icmp .ge 28) := by decide +kernel
theorem i_214_53 : t_ins 214 53 = some (.aload_n 0) := by decide +kernel
theorem i_214_54 : t_ins 214 54 = some (.aload_n 0) := by decide +kernel
theorem i_214_55 : t_ins 214 55 = some (.getfield 73) := by decide +kernel
theorem i_214_58 : t_ins 214 58 = some (.iload 4) := by decide +kernel
theorem i_214_60 : t_ins 214 60 = some (.iaload) := by decide +kernel
theorem i_214_61 : t_ins 214 61 = some (.aload_n 0) := by decide +kernel
theorem i_214_62 : t_ins 214 62 = some (.getfield 73) := by decide +kernel
theorem i_214_65 : t_ins 214 65 = some (.iload 5) := by decide +kernel
theorem i_214_67 : t_ins 214 67 = some (.iaload) := by decide +kernel
theorem i_214_68 : t_ins 214 68 = some (.invokevirtual 298) := by decide +kernel
theorem i_214_71 : t_ins 214 71 = some (.ifCond .gt 7) := by decide +kernel
theorem i_214_74 : t_ins 214 74 = some (.iconst 1) := by decide +kernel
theorem i_214_75 : t_ins 214 75 = some (.goto 4) := by decide +kernel
theorem i_214_78 : t_ins 214 78 = some (.iconst 0) := by decide +kernel
theorem i_214_79 : t_ins 214 79 = some (.istore 7) := by decide +kernel
theorem i_214_81 : t_ins 214 81 = some (.aload_n 0) := by decide +kernel
theorem i_214_82 : t_ins 214 82 = some (.getfield 76) := by decide +kernel
theorem i_214_85 : t_ins 214 85 = some (.iload 6) := by decide +kernel
theorem i_214_87 : t_ins 214 87 = some (.iload 7) := by decide +kernel
theorem i_214_89 : t_ins 214 89 = some (.ifCond .eq 13) := by decide +kernel
theorem i_214_92 : t_ins 214 92 = some (.aload_n 0) := by decide +kernel
theorem i_214_93 : t_ins 214 93 = some (.getfield 73) := by decide +kernel
theorem i_214_96 : t_ins 214 96 = some (.iload 4) := by decide +kernel
theorem i_214_98 : t_ins 214 98 = some (.iaload) := by decide +kernel
theorem i_214_99 : t_ins 214 99 = some (.goto 10) := by decide +kernel
theorem i_214_102 : t_ins 214 102 = some (.aload_n 0) := by decide +kernel
theorem i_214_103 : t_ins 214 103 = some (.getfield 73) := by decide +kernel
theorem i_214_106 : t_ins 214 106 = some (.iload 5) := by decide +kernel
theorem i_214_108 : t_ins 214 108 = some (.iaload) := by decide +kernel
theorem i_214_109 : t_ins 214 109 = some (.iastore) := by decide +kernel
theorem i_214_110 : t_ins 214 110 = some (.iload 7) := by decide +kernel
theorem i_214_112 : t_ins 214 112 = some (.ifCond .eq 9) := by decide +kernel
theorem i_214_115 : t_ins 214 115 = some (.iinc 4 1) := by decide +kernel
theorem i_214_118 : t_ins 214 118 = some (.goto 6) := by decide +kernel
theorem i_214_121 : t_ins 214 121 = some (.iinc 5 1) := by decide +kernel
theorem i_214_124 : t_ins 214 124 = some (.iinc 6 1) := by decide +kernel
theorem i_214_127 : t_ins 214 127 = some (.goto (-92)) := by decide +kernel
theorem i_214_130 : t_ins 214 130 = some (.iload_n 1) := by decide +kernel
theorem i_214_131 : t_ins 214 131 = some (.istore 6) := by decide +kernel
theorem i_214_133 : t_ins 214 133 = some (.iload 6) := by decide +kernel
theorem i_214_135 : t_ins 214 135 = some (.iload_n 2) := by decide +kernel
theorem i_214_136 : t_ins 214 136 = some (.if_icmp .ge 23) := by decide +kernel
theorem i_214_139 : t_ins 214 139 = some (.aload_n 0) := by decide +kernel
theorem i_214_140 : t_ins 214 140 = some (.getfield 73) := by decide +kernel
theorem i_214_143 : t_ins 214 143 = some (.iload 6) := by decide +kernel
theorem i_214_145 : t_ins 214 145 = some (.aload_n 0) := by decide +kernel
theorem i_214_146 : t_ins 214 146 = some (.getfield 76) := by decide +kernel
theorem i_214_149 : t_ins 214 149 = some (.iload 6) := by decide +kernel
theorem i_214_151 : t_ins 214 151 = some (.iaload) := by decide +kernel
theorem i_214_152 : t_ins 214 152 = some (.iastore) := by decide +kernel
theorem i_214_153 : t_ins 214 153 = some (.iinc 6 1) := by decide +kernel
theorem i_214_156 : t_ins 214 156 = some (.goto (-23)) := by decide +kernel
theorem i_214_159 : t_ins 214 159 = some (.return_) := by decide +kernel
theorem q_214_0 : XX d 214 0 [v0, v1, some (.int x), v3, v4, v5, v6, v7] st A Q ↔ XX d 214 1 [v0, v1, some (.int x), v3, v4, v5, v6, v7] (.int x :: st) A Q := c_lcl i_214_0 rfl rfl
theorem q_214_1 : XX d 214 1 [v0, some (.int x), v2, v3, v4, v5, v6, v7] st A Q ↔ XX d 214 2 [v0, some (.int x), v2, v3, v4, v5, v6, v7] (.int x :: st) A Q := c_lcl i_214_1 rfl rfl
theorem q_214_2 : XX d 214 2 [v0, v1, v2, v3, v4, v5, v6, v7] (.int y :: .int x :: st) A Q ↔ XX d 214 3 [v0, v1, v2, v3, v4, v5, v6, v7] (.int (x - y) :: st) A Q := c_stk i_214_2 rfl
theorem q_214_3 : XX d 214 3 [v0, v1, v2, v3, v4, v5, v6, v7] st A Q ↔ XX d 214 4 [v0, v1, v2, v3, v4, v5, v6, v7] (.int (w 2) :: st) A Q := c_stk i_214_3 rfl
theorem q_214_4 : XX d 214 4 [v0, v1, v2, v3, v4, v5, v6, v7] (.int y :: .int x :: st) A Q ↔ if x < y then XX d 214 7 [v0, v1, v2, v3, v4, v5, v6, v7] st A Q else XX d 214 8 [v0, v1, v2, v3, v4, v5, v6, v7] st A Q := b_ge i_214_4 rfl rfl rfl
theorem q_214_7 : XX d 214 7 [v0, v1, v2, v3, v4, v5, v6, v7] [] A Q ↔ Q (.inl none) A := e_retN i_214_7 rfl
theorem q_214_8 : XX d 214 8 [v0, some (.int x), v2, v3, v4, v5, v6, v7] st A Q ↔ XX d 214 9 [v0, some (.int x), v2, v3, v4, v5, v6, v7] (.int x :: st) A Q := c_lcl i_214_8 rfl rfl
theorem q_214_9 : XX d 214 9 [v0, v1, some (.int x), v3, v4, v5, v6, v7] st A Q ↔ XX d 214 10 [v0, v1, some (.int x), v3, v4, v5, v6, v7] (.int x :: st) A Q := c_lcl i_214_9 rfl rfl
theorem q_214_10 : XX d 214 10 [v0, v1, v2, v3, v4, v5, v6, v7] (.int y :: .int x :: st) A Q ↔ XX d 214 11 [v0, v1, v2, v3, v4, v5, v6, v7] (.int (x + y) :: st) A Q := c_stk i_214_10 rfl
theorem q_214_11 : XX d 214 11 [v0, v1, v2, v3, v4, v5, v6, v7] st A Q ↔ XX d 214 12 [v0, v1, v2, v3, v4, v5, v6, v7] (.int (w 2) :: st) A Q := c_stk i_214_11 rfl
theorem q_214_12 : XX d 214 12 [v0, v1, v2, v3, v4, v5, v6, v7] (.int y :: .int x :: st) A Q ↔ ¬ y = w 0 ∧ XX d 214 13 [v0, v1, v2, v3, v4, v5, v6, v7] (.int (x / y) :: st) A Q := c_div i_214_12
theorem q_214_13 : XX d 214 13 [v0, v1, some (.int z), v3, v4, v5, v6, v7] (.int x :: st) A Q ↔ XX d 214 14 [v0, v1, some (.int z), some (.int x), v4, v5, v6, v7] st A Q := c_lcl i_214_13 rfl rfl
theorem q_214_14 : XX d 214 14 [v0, some (.int x), v2, v3, v4, v5, v6, v7] st A Q ↔ XX d 214 15 [v0, some (.int x), v2, v3, v4, v5, v6, v7] (.int x :: st) A Q := c_lcl i_214_14 rfl rfl
theorem q_214_15 : XX d 214 15 [v0, v1, v2, some (.int z), v4, v5, v6, v7] (.int x :: st) A Q ↔ XX d 214 17 [v0, v1, v2, some (.int z), some (.int x), v5, v6, v7] st A Q := c_lcl i_214_15 rfl rfl
theorem q_214_17 : XX d 214 17 [v0, v1, v2, some (.int x), v4, v5, v6, v7] st A Q ↔ XX d 214 18 [v0, v1, v2, some (.int x), v4, v5, v6, v7] (.int x :: st) A Q := c_lcl i_214_17 rfl rfl
theorem q_214_18 : XX d 214 18 [v0, v1, v2, v3, some (.int z), v5, v6, v7] (.int x :: st) A Q ↔ XX d 214 20 [v0, v1, v2, v3, some (.int z), some (.int x), v6, v7] st A Q := c_lcl i_214_18 rfl rfl
theorem q_214_20 : XX d 214 20 [some (.ref a), v1, v2, v3, v4, v5, v6, v7] st A Q ↔ XX d 214 21 [some (.ref a), v1, v2, v3, v4, v5, v6, v7] (.ref a :: st) A Q := c_lcl i_214_20 rfl rfl
theorem q_214_21 : XX d 214 21 [v0, some (.int x), v2, v3, v4, v5, v6, v7] st A Q ↔ XX d 214 22 [v0, some (.int x), v2, v3, v4, v5, v6, v7] (.int x :: st) A Q := c_lcl i_214_21 rfl rfl
theorem q_214_22 : XX d 214 22 [v0, v1, v2, some (.int x), v4, v5, v6, v7] st A Q ↔ XX d 214 23 [v0, v1, v2, some (.int x), v4, v5, v6, v7] (.int x :: st) A Q := c_lcl i_214_22 rfl rfl
theorem q_214_23 : XX (d + 1) 214 23 [v0, v1, v2, v3, v4, v5, v6, v7] [.int x2, .int x1, .ref a0] (mk S I L R G) Q ↔ S a0 = some (.inr 12) ∧ XC d 214 [.ref a0, .int x1, .int x2] (mk S I L R G) (XK (d + 1) 214 23 [v0, v1, v2, v3, v4, v5, v6, v7] [] Q) := c_callV i_214_23 rfl rfl rfl rfl (Nat.le_of_ble_eq_true rfl) (Nat.le_of_ble_eq_true rfl) rfl
theorem q_214_26 : XX d 214 26 [some (.ref a), v1, v2, v3, v4, v5, v6, v7] st A Q ↔ XX d 214 27 [some (.ref a), v1, v2, v3, v4, v5, v6, v7] (.ref a :: st) A Q := c_lcl i_214_26 rfl rfl
theorem q_214_27 : XX d 214 27 [v0, v1, v2, some (.int x), v4, v5, v6, v7] st A Q ↔ XX d 214 28 [v0, v1, v2, some (.int x), v4, v5, v6, v7] (.int x :: st) A Q := c_lcl i_214_27 rfl rfl
theorem q_214_28 : XX d 214 28 [v0, v1, some (.int x), v3, v4, v5, v6, v7] st A Q ↔ XX d 214 29 [v0, v1, some (.int x), v3, v4, v5, v6, v7] (.int x :: st) A Q := c_lcl i_214_28 rfl rfl
theorem q_214_29 : XX (d + 1) 214 29 [v0, v1, v2, v3, v4, v5, v6, v7] [.int x2, .int x1, .ref a0] (mk S I L R G) Q ↔ S a0 = some (.inr 12) ∧ XC d 214 [.ref a0, .int x1, .int x2] (mk S I L R G) (XK (d + 1) 214 29 [v0, v1, v2, v3, v4, v5, v6, v7] [] Q) := c_callV i_214_29 rfl rfl rfl rfl (Nat.le_of_ble_eq_true rfl) (Nat.le_of_ble_eq_true rfl) rfl
theorem q_214_32 : XX d 214 32 [v0, some (.int x), v2, v3, v4, v5, v6, v7] st A Q ↔ XX d 214 33 [v0, some (.int x), v2, v3, v4, v5, v6, v7] (.int x :: st) A Q := c_lcl i_214_32 rfl rfl
theorem q_214_33 : XX d 214 33 [v0, v1, v2, v3, v4, some (.int z), v6, v7] (.int x :: st) A Q ↔ XX d 214 35 [v0, v1, v2, v3, v4, some (.int z), some (.int x), v7] st A Q := c_lcl i_214_33 rfl rfl
theorem q_214_35 : XX d 214 35 [v0, v1, v2, v3, v4, v5, some (.int x), v7] st A Q ↔ XX d 214 37 [v0, v1, v2, v3, v4, v5, some (.int x), v7] (.int x :: st) A Q := c_lcl i_214_35 rfl rfl
theorem q_214_37 : XX d 214 37 [v0, v1, some (.int x), v3, v4, v5, v6, v7] st A Q ↔ XX d 214 38 [v0, v1, some (.int x), v3, v4, v5, v6, v7] (.int x :: st) A Q := c_lcl i_214_37 rfl rfl
theorem q_214_38 : XX d 214 38 [v0, v1, v2, v3, v4, v5, v6, v7] (.int y :: .int x :: st) A Q ↔ if x < y then XX d 214 41 [v0, v1, v2, v3, v4, v5, v6, v7] st A Q else XX d 214 130 [v0, v1, v2, v3, v4, v5, v6, v7] st A Q := b_ge i_214_38 rfl rfl rfl
theorem q_214_41 : XX d 214 41 [v0, v1, v2, v3, v4, some (.int x), v6, v7] st A Q ↔ XX d 214 43 [v0, v1, v2, v3, v4, some (.int x), v6, v7] (.int x :: st) A Q := c_lcl i_214_41 rfl rfl
theorem q_214_43 : XX d 214 43 [v0, v1, some (.int x), v3, v4, v5, v6, v7] st A Q ↔ XX d 214 44 [v0, v1, some (.int x), v3, v4, v5, v6, v7] (.int x :: st) A Q := c_lcl i_214_43 rfl rfl
theorem q_214_44 : XX d 214 44 [v0, v1, v2, v3, v4, v5, v6, v7] (.int y :: .int x :: st) A Q ↔ if x = y then XX d 214 74 [v0, v1, v2, v3, v4, v5, v6, v7] st A Q else XX d 214 47 [v0, v1, v2, v3, v4, v5, v6, v7] st A Q := b_eq i_214_44 rfl rfl rfl
theorem q_214_47 : XX d 214 47 [v0, v1, v2, v3, some (.int x), v5, v6, v7] st A Q ↔ XX d 214 49 [v0, v1, v2, v3, some (.int x), v5, v6, v7] (.int x :: st) A Q := c_lcl i_214_47 rfl rfl
theorem q_214_49 : XX d 214 49 [v0, v1, v2, some (.int x), v4, v5, v6, v7] st A Q ↔ XX d 214 50 [v0, v1, v2, some (.int x), v4, v5, v6, v7] (.int x :: st) A Q := c_lcl i_214_49 rfl rfl
theorem q_214_50 : XX d 214 50 [v0, v1, v2, v3, v4, v5, v6, v7] (.int y :: .int x :: st) A Q ↔ if x < y then XX d 214 53 [v0, v1, v2, v3, v4, v5, v6, v7] st A Q else XX d 214 78 [v0, v1, v2, v3, v4, v5, v6, v7] st A Q := b_ge i_214_50 rfl rfl rfl
theorem q_214_53 : XX d 214 53 [some (.ref a), v1, v2, v3, v4, v5, v6, v7] st A Q ↔ XX d 214 54 [some (.ref a), v1, v2, v3, v4, v5, v6, v7] (.ref a :: st) A Q := c_lcl i_214_53 rfl rfl
theorem q_214_54 : XX d 214 54 [some (.ref a), v1, v2, v3, v4, v5, v6, v7] st A Q ↔ XX d 214 55 [some (.ref a), v1, v2, v3, v4, v5, v6, v7] (.ref a :: st) A Q := c_lcl i_214_54 rfl rfl
theorem q_214_55 : XX d 214 55 [v0, v1, v2, v3, v4, v5, v6, v7] (.ref a :: st) (mk S I L R G) Q ↔ S a = some (.inr 12) ∧ XX d 214 58 [v0, v1, v2, v3, v4, v5, v6, v7] (.ref (a + 6583) :: st) (mk S I L R G) Q := r_gf i_214_55 rfl (by decide) rfl
theorem q_214_58 : XX d 214 58 [v0, v1, v2, v3, some (.int x), v5, v6, v7] st A Q ↔ XX d 214 60 [v0, v1, v2, v3, some (.int x), v5, v6, v7] (.int x :: st) A Q := c_lcl i_214_58 rfl rfl
theorem q_214_60 : XX d 214 60 [v0, v1, v2, v3, v4, v5, v6, v7] (.int x :: .ref a :: st) (mk S I L R G) Q ↔ inA (S a) ok_i x ∧ XX d 214 61 [v0, v1, v2, v3, v4, v5, v6, v7] (.int (I a (ix x)) :: st) (mk S I L R G) Q := r_ia i_214_60
theorem q_214_61 : XX d 214 61 [some (.ref a), v1, v2, v3, v4, v5, v6, v7] st A Q ↔ XX d 214 62 [some (.ref a), v1, v2, v3, v4, v5, v6, v7] (.ref a :: st) A Q := c_lcl i_214_61 rfl rfl
theorem q_214_62 : XX d 214 62 [v0, v1, v2, v3, v4, v5, v6, v7] (.ref a :: st) (mk S I L R G) Q ↔ S a = some (.inr 12) ∧ XX d 214 65 [v0, v1, v2, v3, v4, v5, v6, v7] (.ref (a + 6583) :: st) (mk S I L R G) Q := r_gf i_214_62 rfl (by decide) rfl
theorem q_214_65 : XX d 214 65 [v0, v1, v2, v3, v4, some (.int x), v6, v7] st A Q ↔ XX d 214 67 [v0, v1, v2, v3, v4, some (.int x), v6, v7] (.int x :: st) A Q := c_lcl i_214_65 rfl rfl
theorem q_214_67 : XX d 214 67 [v0, v1, v2, v3, v4, v5, v6, v7] (.int x :: .ref a :: st) (mk S I L R G) Q ↔ inA (S a) ok_i x ∧ XX d 214 68 [v0, v1, v2, v3, v4, v5, v6, v7] (.int (I a (ix x)) :: st) (mk S I L R G) Q := r_ia i_214_67
theorem q_214_68 : XX (d + 1) 214 68 [v0, v1, v2, v3, v4, v5, v6, v7] [.int x2, .int x1, .ref a0] (mk S I L R G) Q ↔ S a0 = some (.inr 12) ∧ XC d 195 [.ref a0, .int x1, .int x2] (mk S I L R G) (XK (d + 1) 214 68 [v0, v1, v2, v3, v4, v5, v6, v7] [] Q) := c_callV i_214_68 rfl rfl rfl rfl (Nat.le_of_ble_eq_true rfl) (Nat.le_of_ble_eq_true rfl) rfl
theorem q_214_71 : XX d 214 71 [v0, v1, v2, v3, v4, v5, v6, v7] (.int x :: st) A Q ↔ if w 0 < x then XX d 214 78 [v0, v1, v2, v3, v4, v5, v6, v7] st A Q else XX d 214 74 [v0, v1, v2, v3, v4, v5, v6, v7] st A Q := z_gt i_214_71 rfl rfl rfl
theorem q_214_74 : XX d 214 74 [v0, v1, v2, v3, v4, v5, v6, v7] st A Q ↔ XX d 214 75 [v0, v1, v2, v3, v4, v5, v6, v7] (.int (w 1) :: st) A Q := c_stk i_214_74 rfl
theorem q_214_75 : XX d 214 75 [v0, v1, v2, v3, v4, v5, v6, v7] st A Q ↔ XX d 214 79 [v0, v1, v2, v3, v4, v5, v6, v7] st A Q := c_go i_214_75 rfl rfl
theorem q_214_78 : XX d 214 78 [v0, v1, v2, v3, v4, v5, v6, v7] st A Q ↔ XX d 214 79 [v0, v1, v2, v3, v4, v5, v6, v7] (.int (w 0) :: st) A Q := c_stk i_214_78 rfl
theorem q_214_79 : XX d 214 79 [v0, v1, v2, v3, v4, v5, some (.int z), v7] (.int x :: st) A Q ↔ XX d 214 81 [v0, v1, v2, v3, v4, v5, some (.int z), some (.int x)] st A Q := c_lcl i_214_79 rfl rfl
theorem q_214_81 : XX d 214 81 [some (.ref a), v1, v2, v3, v4, v5, v6, v7] st A Q ↔ XX d 214 82 [some (.ref a), v1, v2, v3, v4, v5, v6, v7] (.ref a :: st) A Q := c_lcl i_214_81 rfl rfl
theorem q_214_82 : XX d 214 82 [v0, v1, v2, v3, v4, v5, v6, v7] (.ref a :: st) (mk S I L R G) Q ↔ S a = some (.inr 12) ∧ XX d 214 85 [v0, v1, v2, v3, v4, v5, v6, v7] (.ref (a + 6584) :: st) (mk S I L R G) Q := r_gf i_214_82 rfl (by decide) rfl
theorem q_214_85 : XX d 214 85 [v0, v1, v2, v3, v4, v5, some (.int x), v7] st A Q ↔ XX d 214 87 [v0, v1, v2, v3, v4, v5, some (.int x), v7] (.int x :: st) A Q := c_lcl i_214_85 rfl rfl
theorem q_214_87 : XX d 214 87 [v0, v1, v2, v3, v4, v5, v6, some (.int x)] st A Q ↔ XX d 214 89 [v0, v1, v2, v3, v4, v5, v6, some (.int x)] (.int x :: st) A Q := c_lcl i_214_87 rfl rfl
theorem q_214_89 : XX d 214 89 [v0, v1, v2, v3, v4, v5, v6, v7] (.int x :: st) A Q ↔ if x = w 0 then XX d 214 102 [v0, v1, v2, v3, v4, v5, v6, v7] st A Q else XX d 214 92 [v0, v1, v2, v3, v4, v5, v6, v7] st A Q := z_eq i_214_89 rfl rfl rfl
theorem q_214_92 : XX d 214 92 [some (.ref a), v1, v2, v3, v4, v5, v6, v7] st A Q ↔ XX d 214 93 [some (.ref a), v1, v2, v3, v4, v5, v6, v7] (.ref a :: st) A Q := c_lcl i_214_92 rfl rfl
theorem q_214_93 : XX d 214 93 [v0, v1, v2, v3, v4, v5, v6, v7] (.ref a :: st) (mk S I L R G) Q ↔ S a = some (.inr 12) ∧ XX d 214 96 [v0, v1, v2, v3, v4, v5, v6, v7] (.ref (a + 6583) :: st) (mk S I L R G) Q := r_gf i_214_93 rfl (by decide) rfl
theorem q_214_96 : XX d 214 96 [v0, v1, v2, v3, some (.int x), v5, v6, v7] st A Q ↔ XX d 214 98 [v0, v1, v2, v3, some (.int x), v5, v6, v7] (.int x :: st) A Q := c_lcl i_214_96 rfl rfl
theorem q_214_98 : XX d 214 98 [v0, v1, v2, v3, v4, v5, v6, v7] (.int x :: .ref a :: st) (mk S I L R G) Q ↔ inA (S a) ok_i x ∧ XX d 214 99 [v0, v1, v2, v3, v4, v5, v6, v7] (.int (I a (ix x)) :: st) (mk S I L R G) Q := r_ia i_214_98
theorem q_214_99 : XX d 214 99 [v0, v1, v2, v3, v4, v5, v6, v7] st A Q ↔ XX d 214 109 [v0, v1, v2, v3, v4, v5, v6, v7] st A Q := c_go i_214_99 rfl rfl
theorem q_214_102 : XX d 214 102 [some (.ref a), v1, v2, v3, v4, v5, v6, v7] st A Q ↔ XX d 214 103 [some (.ref a), v1, v2, v3, v4, v5, v6, v7] (.ref a :: st) A Q := c_lcl i_214_102 rfl rfl
theorem q_214_103 : XX d 214 103 [v0, v1, v2, v3, v4, v5, v6, v7] (.ref a :: st) (mk S I L R G) Q ↔ S a = some (.inr 12) ∧ XX d 214 106 [v0, v1, v2, v3, v4, v5, v6, v7] (.ref (a + 6583) :: st) (mk S I L R G) Q := r_gf i_214_103 rfl (by decide) rfl
theorem q_214_106 : XX d 214 106 [v0, v1, v2, v3, v4, some (.int x), v6, v7] st A Q ↔ XX d 214 108 [v0, v1, v2, v3, v4, some (.int x), v6, v7] (.int x :: st) A Q := c_lcl i_214_106 rfl rfl
theorem q_214_108 : XX d 214 108 [v0, v1, v2, v3, v4, v5, v6, v7] (.int x :: .ref a :: st) (mk S I L R G) Q ↔ inA (S a) ok_i x ∧ XX d 214 109 [v0, v1, v2, v3, v4, v5, v6, v7] (.int (I a (ix x)) :: st) (mk S I L R G) Q := r_ia i_214_108
theorem q_214_109 : XX d 214 109 [v0, v1, v2, v3, v4, v5, v6, v7] (.int y :: .int x :: .ref a :: st) (mk S I L R G) Q ↔ inA (S a) ok_0 x ∧ XX d 214 110 [v0, v1, v2, v3, v4, v5, v6, v7] st (mk S (wr I a (up (I a) (ix x) y)) L R G) Q := r_ias i_214_109
theorem q_214_110 : XX d 214 110 [v0, v1, v2, v3, v4, v5, v6, some (.int x)] st A Q ↔ XX d 214 112 [v0, v1, v2, v3, v4, v5, v6, some (.int x)] (.int x :: st) A Q := c_lcl i_214_110 rfl rfl
theorem q_214_112 : XX d 214 112 [v0, v1, v2, v3, v4, v5, v6, v7] (.int x :: st) A Q ↔ if x = w 0 then XX d 214 121 [v0, v1, v2, v3, v4, v5, v6, v7] st A Q else XX d 214 115 [v0, v1, v2, v3, v4, v5, v6, v7] st A Q := z_eq i_214_112 rfl rfl rfl
theorem q_214_115 : XX d 214 115 [v0, v1, v2, some (.int z), some (.int x), v5, v6, v7] st A Q ↔ XX d 214 118 [v0, v1, v2, some (.int z), some (.int (x + w 1)), v5, v6, v7] st A Q := c_lcl i_214_115 rfl rfl
theorem q_214_118 : XX d 214 118 [v0, v1, v2, v3, v4, v5, v6, v7] st A Q ↔ XX d 214 124 [v0, v1, v2, v3, v4, v5, v6, v7] st A Q := c_go i_214_118 rfl rfl
theorem q_214_121 : XX d 214 121 [v0, v1, v2, v3, some (.int z), some (.int x), v6, v7] st A Q ↔ XX d 214 124 [v0, v1, v2, v3, some (.int z), some (.int (x + w 1)), v6, v7] st A Q := c_lcl i_214_121 rfl rfl
theorem q_214_124 : XX d 214 124 [v0, v1, v2, v3, v4, some (.int z), some (.int x), v7] st A Q ↔ XX d 214 127 [v0, v1, v2, v3, v4, some (.int z), some (.int (x + w 1)), v7] st A Q := c_lcl i_214_124 rfl rfl
theorem q_214_127 : XX d 214 127 [v0, v1, v2, v3, v4, v5, v6, v7] st A Q ↔ XX d 214 35 [v0, v1, v2, v3, v4, v5, v6, v7] st A Q := c_go i_214_127 rfl rfl
theorem q_214_130 : XX d 214 130 [v0, some (.int x), v2, v3, v4, v5, v6, v7] st A Q ↔ XX d 214 131 [v0, some (.int x), v2, v3, v4, v5, v6, v7] (.int x :: st) A Q := c_lcl i_214_130 rfl rfl
theorem q_214_131 : XX d 214 131 [v0, v1, v2, v3, v4, some (.int z), v6, v7] (.int x :: st) A Q ↔ XX d 214 133 [v0, v1, v2, v3, v4, some (.int z), some (.int x), v7] st A Q := c_lcl i_214_131 rfl rfl
theorem q_214_133 : XX d 214 133 [v0, v1, v2, v3, v4, v5, some (.int x), v7] st A Q ↔ XX d 214 135 [v0, v1, v2, v3, v4, v5, some (.int x), v7] (.int x :: st) A Q := c_lcl i_214_133 rfl rfl
theorem q_214_135 : XX d 214 135 [v0, v1, some (.int x), v3, v4, v5, v6, v7] st A Q ↔ XX d 214 136 [v0, v1, some (.int x), v3, v4, v5, v6, v7] (.int x :: st) A Q := c_lcl i_214_135 rfl rfl
theorem q_214_136 : XX d 214 136 [v0, v1, v2, v3, v4, v5, v6, v7] (.int y :: .int x :: st) A Q ↔ if x < y then XX d 214 139 [v0, v1, v2, v3, v4, v5, v6, v7] st A Q else XX d 214 159 [v0, v1, v2, v3, v4, v5, v6, v7] st A Q := b_ge i_214_136 rfl rfl rfl
theorem q_214_139 : XX d 214 139 [some (.ref a), v1, v2, v3, v4, v5, v6, v7] st A Q ↔ XX d 214 140 [some (.ref a), v1, v2, v3, v4, v5, v6, v7] (.ref a :: st) A Q := c_lcl i_214_139 rfl rfl
theorem q_214_140 : XX d 214 140 [v0, v1, v2, v3, v4, v5, v6, v7] (.ref a :: st) (mk S I L R G) Q ↔ S a = some (.inr 12) ∧ XX d 214 143 [v0, v1, v2, v3, v4, v5, v6, v7] (.ref (a + 6583) :: st) (mk S I L R G) Q := r_gf i_214_140 rfl (by decide) rfl
theorem q_214_143 : XX d 214 143 [v0, v1, v2, v3, v4, v5, some (.int x), v7] st A Q ↔ XX d 214 145 [v0, v1, v2, v3, v4, v5, some (.int x), v7] (.int x :: st) A Q := c_lcl i_214_143 rfl rfl
theorem q_214_145 : XX d 214 145 [some (.ref a), v1, v2, v3, v4, v5, v6, v7] st A Q ↔ XX d 214 146 [some (.ref a), v1, v2, v3, v4, v5, v6, v7] (.ref a :: st) A Q := c_lcl i_214_145 rfl rfl
theorem q_214_146 : XX d 214 146 [v0, v1, v2, v3, v4, v5, v6, v7] (.ref a :: st) (mk S I L R G) Q ↔ S a = some (.inr 12) ∧ XX d 214 149 [v0, v1, v2, v3, v4, v5, v6, v7] (.ref (a + 6584) :: st) (mk S I L R G) Q := r_gf i_214_146 rfl (by decide) rfl
theorem q_214_149 : XX d 214 149 [v0, v1, v2, v3, v4, v5, some (.int x), v7] st A Q ↔ XX d 214 151 [v0, v1, v2, v3, v4, v5, some (.int x), v7] (.int x :: st) A Q := c_lcl i_214_149 rfl rfl
theorem q_214_151 : XX d 214 151 [v0, v1, v2, v3, v4, v5, v6, v7] (.int x :: .ref a :: st) (mk S I L R G) Q ↔ inA (S a) ok_i x ∧ XX d 214 152 [v0, v1, v2, v3, v4, v5, v6, v7] (.int (I a (ix x)) :: st) (mk S I L R G) Q := r_ia i_214_151
theorem q_214_152 : XX d 214 152 [v0, v1, v2, v3, v4, v5, v6, v7] (.int y :: .int x :: .ref a :: st) (mk S I L R G) Q ↔ inA (S a) ok_0 x ∧ XX d 214 153 [v0, v1, v2, v3, v4, v5, v6, v7] st (mk S (wr I a (up (I a) (ix x) y)) L R G) Q := r_ias i_214_152
theorem q_214_153 : XX d 214 153 [v0, v1, v2, v3, v4, some (.int z), some (.int x), v7] st A Q ↔ XX d 214 156 [v0, v1, v2, v3, v4, some (.int z), some (.int (x + w 1)), v7] st A Q := c_lcl i_214_153 rfl rfl
theorem q_214_156 : XX d 214 156 [v0, v1, v2, v3, v4, v5, v6, v7] st A Q ↔ XX d 214 133 [v0, v1, v2, v3, v4, v5, v6, v7] st A Q := c_go i_214_156 rfl rfl
theorem q_214_159 : XX d 214 159 [v0, v1, v2, v3, v4, v5, v6, v7] [] A Q ↔ Q (.inl none) A := e_retN i_214_159 rfl
theorem q_214_e : XC d 214 [.ref a0, .int x1, .int x2] A Q ↔ XX d 214 0 [some (.ref a0), some (.int x1), some (.int x2), none, none, none, none, none] [] A Q := Iff.rfl
theorem i_215_0 : t_ins 215 0 = some (.aload_n 0) := by decide +kernel
theorem i_215_1 : t_ins 215 1 = some (.iload_n 1) := by decide +kernel
theorem i_215_2 : t_ins 215 2 = some (.invokevirtual 301) := by decide +kernel
theorem i_215_5 : t_ins 215 5 = some (.aload_n 0) := by decide +kernel
theorem i_215_6 : t_ins 215 6 = some (.iconst 0) := by decide +kernel
theorem i_215_7 : t_ins 215 7 = some (.putfield 330) := by decide +kernel
theorem i_215_10 : t_ins 215 10 = some (.iconst 0) := by decide +kernel
theorem i_215_11 : t_ins 215 11 = some (.istore_n 2) := by decide +kernel
theorem i_215_12 : t_ins 215 12 = some (.iload_n 2) := by decide +kernel
theorem i_215_13 : t_ins 215 13 = some (.aload_n 0) := by decide +kernel
theorem i_215_14 : t_ins 215 14 = some (.getfield 36) := by decide +kernel
theorem i_215_17 : t_ins 215 17 = some (.if_icmp .gt 42) := by decide +kernel
theorem i_215_20 : t_ins 215 20 = some (.aload_n 0) := by decide +kernel
theorem i_215_21 : t_ins 215 21 = some (.getfield 61) := by decide +kernel
theorem i_215_24 : t_ins 215 24 = some (.iload_n 2) := by decide +kernel
theorem i_215_25 : t_ins 215 25 = some (.iaload) := by decide +kernel
theorem i_215_26 : t_ins 215 26 = some (.iconst (-1)) := by decide +kernel
theorem i_215_27 : t_ins 215 27 = some (.if_icmp .ne 6) := by decide +kernel
theorem i_215_30 : t_ins 215 30 = some (.goto 23) := by decide +kernel
theorem i_215_33 : t_ins 215 33 = some (.aload_n 0) := by decide +kernel
theorem i_215_34 : t_ins 215 34 = some (.getfield 73) := by decide +kernel
theorem i_215_37 : t_ins 215 37 = some (.aload_n 0) := by decide +kernel
theorem i_215_38 : t_ins 215 38 = some (.getfield 330) := by decide +kernel
theorem i_215_41 : t_ins 215 41 = some (.iload_n 2) := by decide +kernel
theorem i_215_42 : t_ins 215 42 = some (.iastore) := by decide +kernel
theorem i_215_43 : t_ins 215 43 = some (.aload_n 0) := by decide +kernel
theorem i_215_44 : t_ins 215 44 = some (.dup) := by decide +kernel
theorem i_215_45 : t_ins 215 45 = some (.getfield 330) := by decide +kernel
theorem i_215_48 : t_ins 215 48 = some (.iconst 1) := by decide +kernel
theorem i_215_49 : t_ins 215 49 = some (.iadd) := by decide +kernel
theorem i_215_50 : t_ins 215 50 = some (.putfield 330) := by decide +kernel
theorem i_215_53 : t_ins 215 53 = some (.iinc 2 1) := by decide +kernel
theorem i_215_56 : t_ins 215 56 = some (.goto (-44)) := by decide +kernel
theorem i_215_59 : t_ins 215 59 = some (.aload_n 0) := by decide +kernel
theorem i_215_60 : t_ins 215 60 = some (.iconst 0) := by decide +kernel
theorem i_215_61 : t_ins 215 61 = some (.aload_n 0) := by decide +kernel
theorem i_215_62 : t_ins 215 62 = some (.getfield 330) := by decide +kernel
theorem i_215_65 : t_ins 215 65 = some (.invokevirtual 327) := by decide +kernel
theorem i_215_68 : t_ins 215 68 = some (.return_) := by decide +kernel
theorem q_215_0 : XX d 215 0 [some (.ref a), v1, v2] st A Q ↔ XX d 215 1 [some (.ref a), v1, v2] (.ref a :: st) A Q := c_lcl i_215_0 rfl rfl
theorem q_215_1 : XX d 215 1 [v0, some (.int x), v2] st A Q ↔ XX d 215 2 [v0, some (.int x), v2] (.int x :: st) A Q := c_lcl i_215_1 rfl rfl
theorem q_215_2 : XX (d + 1) 215 2 [v0, v1, v2] [.int x1, .ref a0] (mk S I L R G) Q ↔ S a0 = some (.inr 12) ∧ XC d 194 [.ref a0, .int x1] (mk S I L R G) (XK (d + 1) 215 2 [v0, v1, v2] [] Q) := c_callV i_215_2 rfl rfl rfl rfl (Nat.le_of_ble_eq_true rfl) (Nat.le_of_ble_eq_true rfl) rfl
theorem q_215_5 : XX d 215 5 [some (.ref a), v1, v2] st A Q ↔ XX d 215 6 [some (.ref a), v1, v2] (.ref a :: st) A Q := c_lcl i_215_5 rfl rfl
theorem q_215_6 : XX d 215 6 [v0, v1, v2] st A Q ↔ XX d 215 7 [v0, v1, v2] (.int (w 0) :: st) A Q := c_stk i_215_6 rfl
theorem q_215_7 : XX d 215 7 [v0, v1, v2] (.int x :: .ref a :: st) (mk S I L R G) Q ↔ S a = some (.inr 12) ∧ XX d 215 10 [v0, v1, v2] st (mk S (wr I a (up (I a) 31 x)) L R G) Q := r_pf i_215_7 rfl (by decide) rfl rfl rfl
theorem q_215_10 : XX d 215 10 [v0, v1, v2] st A Q ↔ XX d 215 11 [v0, v1, v2] (.int (w 0) :: st) A Q := c_stk i_215_10 rfl
theorem q_215_11 : XX d 215 11 [v0, some (.int z), v2] (.int x :: st) A Q ↔ XX d 215 12 [v0, some (.int z), some (.int x)] st A Q := c_lcl i_215_11 rfl rfl
theorem q_215_12 : XX d 215 12 [v0, v1, some (.int x)] st A Q ↔ XX d 215 13 [v0, v1, some (.int x)] (.int x :: st) A Q := c_lcl i_215_12 rfl rfl
theorem q_215_13 : XX d 215 13 [some (.ref a), v1, v2] st A Q ↔ XX d 215 14 [some (.ref a), v1, v2] (.ref a :: st) A Q := c_lcl i_215_13 rfl rfl
theorem q_215_14 : XX d 215 14 [v0, v1, v2] (.ref a :: st) (mk S I L R G) Q ↔ S a = some (.inr 12) ∧ XX d 215 17 [v0, v1, v2] (.int (I a 13) :: st) (mk S I L R G) Q := r_gf i_215_14 rfl (by decide) rfl
theorem q_215_17 : XX d 215 17 [v0, v1, v2] (.int y :: .int x :: st) A Q ↔ if y < x then XX d 215 59 [v0, v1, v2] st A Q else XX d 215 20 [v0, v1, v2] st A Q := b_gt i_215_17 rfl rfl rfl
theorem q_215_20 : XX d 215 20 [some (.ref a), v1, v2] st A Q ↔ XX d 215 21 [some (.ref a), v1, v2] (.ref a :: st) A Q := c_lcl i_215_20 rfl rfl
theorem q_215_21 : XX d 215 21 [v0, v1, v2] (.ref a :: st) (mk S I L R G) Q ↔ S a = some (.inr 12) ∧ XX d 215 24 [v0, v1, v2] (.ref (a + 6579) :: st) (mk S I L R G) Q := r_gf i_215_21 rfl (by decide) rfl
theorem q_215_24 : XX d 215 24 [v0, v1, some (.int x)] st A Q ↔ XX d 215 25 [v0, v1, some (.int x)] (.int x :: st) A Q := c_lcl i_215_24 rfl rfl
theorem q_215_25 : XX d 215 25 [v0, v1, v2] (.int x :: .ref a :: st) (mk S I L R G) Q ↔ inA (S a) ok_i x ∧ XX d 215 26 [v0, v1, v2] (.int (I a (ix x)) :: st) (mk S I L R G) Q := r_ia i_215_25
theorem q_215_26 : XX d 215 26 [v0, v1, v2] st A Q ↔ XX d 215 27 [v0, v1, v2] (.int (w (-1)) :: st) A Q := c_stk i_215_26 rfl
theorem q_215_27 : XX d 215 27 [v0, v1, v2] (.int y :: .int x :: st) A Q ↔ if x = y then XX d 215 30 [v0, v1, v2] st A Q else XX d 215 33 [v0, v1, v2] st A Q := b_ne i_215_27 rfl rfl rfl
theorem q_215_30 : XX d 215 30 [v0, v1, v2] st A Q ↔ XX d 215 53 [v0, v1, v2] st A Q := c_go i_215_30 rfl rfl
theorem q_215_33 : XX d 215 33 [some (.ref a), v1, v2] st A Q ↔ XX d 215 34 [some (.ref a), v1, v2] (.ref a :: st) A Q := c_lcl i_215_33 rfl rfl
theorem q_215_34 : XX d 215 34 [v0, v1, v2] (.ref a :: st) (mk S I L R G) Q ↔ S a = some (.inr 12) ∧ XX d 215 37 [v0, v1, v2] (.ref (a + 6583) :: st) (mk S I L R G) Q := r_gf i_215_34 rfl (by decide) rfl
theorem q_215_37 : XX d 215 37 [some (.ref a), v1, v2] st A Q ↔ XX d 215 38 [some (.ref a), v1, v2] (.ref a :: st) A Q := c_lcl i_215_37 rfl rfl
theorem q_215_38 : XX d 215 38 [v0, v1, v2] (.ref a :: st) (mk S I L R G) Q ↔ S a = some (.inr 12) ∧ XX d 215 41 [v0, v1, v2] (.int (I a 31) :: st) (mk S I L R G) Q := r_gf i_215_38 rfl (by decide) rfl
theorem q_215_41 : XX d 215 41 [v0, v1, some (.int x)] st A Q ↔ XX d 215 42 [v0, v1, some (.int x)] (.int x :: st) A Q := c_lcl i_215_41 rfl rfl
theorem q_215_42 : XX d 215 42 [v0, v1, v2] (.int y :: .int x :: .ref a :: st) (mk S I L R G) Q ↔ inA (S a) ok_0 x ∧ XX d 215 43 [v0, v1, v2] st (mk S (wr I a (up (I a) (ix x) y)) L R G) Q := r_ias i_215_42
theorem q_215_43 : XX d 215 43 [some (.ref a), v1, v2] st A Q ↔ XX d 215 44 [some (.ref a), v1, v2] (.ref a :: st) A Q := c_lcl i_215_43 rfl rfl
theorem q_215_44 : XX d 215 44 [v0, v1, v2] (.ref a1 :: st) A Q ↔ XX d 215 45 [v0, v1, v2] (.ref a1 :: .ref a1 :: st) A Q := c_stk i_215_44 rfl
theorem q_215_45 : XX d 215 45 [v0, v1, v2] (.ref a :: st) (mk S I L R G) Q ↔ S a = some (.inr 12) ∧ XX d 215 48 [v0, v1, v2] (.int (I a 31) :: st) (mk S I L R G) Q := r_gf i_215_45 rfl (by decide) rfl
theorem q_215_48 : XX d 215 48 [v0, v1, v2] st A Q ↔ XX d 215 49 [v0, v1, v2] (.int (w 1) :: st) A Q := c_stk i_215_48 rfl
theorem q_215_49 : XX d 215 49 [v0, v1, v2] (.int y :: .int x :: st) A Q ↔ XX d 215 50 [v0, v1, v2] (.int (x + y) :: st) A Q := c_stk i_215_49 rfl
theorem q_215_50 : XX d 215 50 [v0, v1, v2] (.int x :: .ref a :: st) (mk S I L R G) Q ↔ S a = some (.inr 12) ∧ XX d 215 53 [v0, v1, v2] st (mk S (wr I a (up (I a) 31 x)) L R G) Q := r_pf i_215_50 rfl (by decide) rfl rfl rfl
theorem q_215_53 : XX d 215 53 [v0, some (.int z), some (.int x)] st A Q ↔ XX d 215 56 [v0, some (.int z), some (.int (x + w 1))] st A Q := c_lcl i_215_53 rfl rfl
theorem q_215_56 : XX d 215 56 [v0, v1, v2] st A Q ↔ XX d 215 12 [v0, v1, v2] st A Q := c_go i_215_56 rfl rfl
theorem q_215_59 : XX d 215 59 [some (.ref a), v1, v2] st A Q ↔ XX d 215 60 [some (.ref a), v1, v2] (.ref a :: st) A Q := c_lcl i_215_59 rfl rfl
theorem q_215_60 : XX d 215 60 [v0, v1, v2] st A Q ↔ XX d 215 61 [v0, v1, v2] (.int (w 0) :: st) A Q := c_stk i_215_60 rfl
theorem q_215_61 : XX d 215 61 [some (.ref a), v1, v2] st A Q ↔ XX d 215 62 [some (.ref a), v1, v2] (.ref a :: st) A Q := c_lcl i_215_61 rfl rfl
theorem q_215_62 : XX d 215 62 [v0, v1, v2] (.ref a :: st) (mk S I L R G) Q ↔ S a = some (.inr 12) ∧ XX d 215 65 [v0, v1, v2] (.int (I a 31) :: st) (mk S I L R G) Q := r_gf i_215_62 rfl (by decide) rfl
theorem q_215_65 : XX (d + 1) 215 65 [v0, v1, v2] [.int x2, .int x1, .ref a0] (mk S I L R G) Q ↔ S a0 = some (.inr 12) ∧ XC d 214 [.ref a0, .int x1, .int x2] (mk S I L R G) (XK (d + 1) 215 65 [v0, v1, v2] [] Q) := c_callV i_215_65 rfl rfl rfl rfl (Nat.le_of_ble_eq_true rfl) (Nat.le_of_ble_eq_true rfl) rfl
theorem q_215_68 : XX d 215 68 [v0, v1, v2] [] A Q ↔ Q (.inl none) A := e_retN i_215_68 rfl
theorem q_215_e : XC d 215 [.ref a0, .int x1] A Q ↔ XX d 215 0 [some (.ref a0), some (.int x1), none] [] A Q := Iff.rfl
theorem i_216_0 : t_ins 216 0 = some (.aload_n 0) := by decide +kernel
theorem i_216_1 : t_ins 216 1 = some (.iconst 0) := by decide +kernel
theorem i_216_2 : t_ins 216 2 = some (.putfield 121) := by decide +kernel
theorem i_216_5 : t_ins 216 5 = some (.aload_n 0) := by decide +kernel
theorem i_216_6 : t_ins 216 6 = some (.iload_n 1) := by decide +kernel
theorem i_216_7 : t_ins 216 7 = some (.invokestatic 245) := by decide +kernel
theorem i_216_10 : t_ins 216 10 = some (.ifCond .ne 7) := by decide +kernel
theorem i_216_13 : t_ins 216 13 = some (.iconst 1) := by decide +kernel
theorem i_216_14 : t_ins 216 14 = some (.goto 4) := by decide +kernel
theorem i_216_17 : t_ins 216 17 = some (.iconst 0) := by decide +kernel
theorem i_216_18 : t_ins 216 18 = some (.iconst 1) := by decide +kernel
theorem i_216_19 : t_ins 216 19 = some (.iconst 0) := by decide +kernel
theorem i_216_20 : t_ins 216 20 = some (.invokevirtual 234) := by decide +kernel
theorem i_216_23 : t_ins 216 23 = some (.ifCond .eq 5) := by decide +kernel
theorem i_216_26 : t_ins 216 26 = some (.iconst 0) := by decide +kernel
theorem i_216_27 : t_ins 216 27 = some (.ireturn) := by decide +kernel
theorem i_216_28 : t_ins 216 28 = some (.aload_n 0) := by decide +kernel
theorem i_216_29 : t_ins 216 29 = some (.iload_n 1) := by decide +kernel
theorem i_216_30 : t_ins 216 30 = some (.invokevirtual 333) := by decide +kernel
theorem i_216_33 : t_ins 216 33 = some (.iload_n 2) := by decide +kernel
theorem i_216_34 : t_ins 216 34 = some (.iconst 0) := by decide +kernel
theorem i_216_35 : t_ins 216 35 = some (.aload_n 0) := by decide +kernel
theorem i_216_36 : t_ins 216 36 = some (.getfield 330) := by decide +kernel
theorem i_216_39 : t_ins 216 39 = some (.iconst 1) := by decide +kernel
theorem i_216_40 : t_ins 216 40 = some (.isub) := by decide +kernel
theorem i_216_41 : t_ins 216 41 = some (.invokestatic 230) := by decide +kernel
theorem i_216_44 : t_ins 216 44 = some (.ifCond .eq 12) := by decide +kernel
theorem i_216_47 : t_ins 216 47 = some (.aload_n 0) := by decide +kernel
theorem i_216_48 : t_ins 216 48 = some (.getfield 73) := by decide +kernel
theorem i_216_51 : t_ins 216 51 = some (.iload_n 2) := by decide +kernel
theorem i_216_52 : t_ins 216 52 = some (.iaload) := by decide +kernel
theorem i_216_53 : t_ins 216 53 = some (.goto 4) := by decide +kernel
theorem i_216_56 : t_ins 216 56 = some (.iconst (-1)) := by decide +kernel
theorem i_216_57 : t_ins 216 57 = some (.ireturn) := by decide +kernel
theorem q_216_0 : XX d 216 0 [some (.ref a), v1, v2] st A Q ↔ XX d 216 1 [some (.ref a), v1, v2] (.ref a :: st) A Q := c_lcl i_216_0 rfl rfl
theorem q_216_1 : XX d 216 1 [v0, v1, v2] st A Q ↔ XX d 216 2 [v0, v1, v2] (.int (w 0) :: st) A Q := c_stk i_216_1 rfl
theorem q_216_2 : XX d 216 2 [v0, v1, v2] (.int x :: .ref a :: st) (mk S I L R G) Q ↔ S a = some (.inr 12) ∧ XX d 216 5 [v0, v1, v2] st (mk S (wr I a (up (I a) 0 x)) L R G) Q := r_pf i_216_2 rfl (by decide) rfl rfl rfl
theorem q_216_5 : XX d 216 5 [some (.ref a), v1, v2] st A Q ↔ XX d 216 6 [some (.ref a), v1, v2] (.ref a :: st) A Q := c_lcl i_216_5 rfl rfl
theorem q_216_6 : XX d 216 6 [v0, some (.int x), v2] st A Q ↔ XX d 216 7 [v0, some (.int x), v2] (.int x :: st) A Q := c_lcl i_216_6 rfl rfl
theorem q_216_7 : XX (d + 1) 216 7 [v0, v1, v2] [.int x0, .ref a1] A Q ↔ XC d 182 [.int x0] A (XK (d + 1) 216 7 [v0, v1, v2] [.ref a1] Q) := c_callS i_216_7 rfl rfl rfl rfl (Nat.le_of_ble_eq_true rfl) (Nat.le_of_ble_eq_true rfl)
theorem q_216_10 : XX d 216 10 [v0, v1, v2] (.int x :: st) A Q ↔ if x = w 0 then XX d 216 13 [v0, v1, v2] st A Q else XX d 216 17 [v0, v1, v2] st A Q := z_ne i_216_10 rfl rfl rfl
theorem q_216_13 : XX d 216 13 [v0, v1, v2] st A Q ↔ XX d 216 14 [v0, v1, v2] (.int (w 1) :: st) A Q := c_stk i_216_13 rfl
theorem q_216_14 : XX d 216 14 [v0, v1, v2] st A Q ↔ XX d 216 18 [v0, v1, v2] st A Q := c_go i_216_14 rfl rfl
theorem q_216_17 : XX d 216 17 [v0, v1, v2] st A Q ↔ XX d 216 18 [v0, v1, v2] (.int (w 0) :: st) A Q := c_stk i_216_17 rfl
theorem q_216_18 : XX d 216 18 [v0, v1, v2] st A Q ↔ XX d 216 19 [v0, v1, v2] (.int (w 1) :: st) A Q := c_stk i_216_18 rfl
theorem q_216_19 : XX d 216 19 [v0, v1, v2] st A Q ↔ XX d 216 20 [v0, v1, v2] (.int (w 0) :: st) A Q := c_stk i_216_19 rfl
theorem q_216_20 : XX (d + 1) 216 20 [v0, v1, v2] [.int x3, .int x2, .int x1, .ref a0] (mk S I L R G) Q ↔ S a0 = some (.inr 12) ∧ XC d 154 [.ref a0, .int x1, .int x2, .int x3] (mk S I L R G) (XK (d + 1) 216 20 [v0, v1, v2] [] Q) := c_callV i_216_20 rfl rfl rfl rfl (Nat.le_of_ble_eq_true rfl) (Nat.le_of_ble_eq_true rfl) rfl
theorem q_216_23 : XX d 216 23 [v0, v1, v2] (.int x :: st) A Q ↔ if x = w 0 then XX d 216 28 [v0, v1, v2] st A Q else XX d 216 26 [v0, v1, v2] st A Q := z_eq i_216_23 rfl rfl rfl
theorem q_216_26 : XX d 216 26 [v0, v1, v2] st A Q ↔ XX d 216 27 [v0, v1, v2] (.int (w 0) :: st) A Q := c_stk i_216_26 rfl
theorem q_216_27 : XX d 216 27 [v0, v1, v2] [.int x] A Q ↔ Q (.inl (some (.int x))) A := e_retI i_216_27 rfl
theorem q_216_28 : XX d 216 28 [some (.ref a), v1, v2] st A Q ↔ XX d 216 29 [some (.ref a), v1, v2] (.ref a :: st) A Q := c_lcl i_216_28 rfl rfl
theorem q_216_29 : XX d 216 29 [v0, some (.int x), v2] st A Q ↔ XX d 216 30 [v0, some (.int x), v2] (.int x :: st) A Q := c_lcl i_216_29 rfl rfl
theorem q_216_30 : XX (d + 1) 216 30 [v0, v1, v2] [.int x1, .ref a0] (mk S I L R G) Q ↔ S a0 = some (.inr 12) ∧ XC d 215 [.ref a0, .int x1] (mk S I L R G) (XK (d + 1) 216 30 [v0, v1, v2] [] Q) := c_callV i_216_30 rfl rfl rfl rfl (Nat.le_of_ble_eq_true rfl) (Nat.le_of_ble_eq_true rfl) rfl
theorem q_216_33 : XX d 216 33 [v0, v1, some (.int x)] st A Q ↔ XX d 216 34 [v0, v1, some (.int x)] (.int x :: st) A Q := c_lcl i_216_33 rfl rfl
theorem q_216_34 : XX d 216 34 [v0, v1, v2] st A Q ↔ XX d 216 35 [v0, v1, v2] (.int (w 0) :: st) A Q := c_stk i_216_34 rfl
theorem q_216_35 : XX d 216 35 [some (.ref a), v1, v2] st A Q ↔ XX d 216 36 [some (.ref a), v1, v2] (.ref a :: st) A Q := c_lcl i_216_35 rfl rfl
theorem q_216_36 : XX d 216 36 [v0, v1, v2] (.ref a :: st) (mk S I L R G) Q ↔ S a = some (.inr 12) ∧ XX d 216 39 [v0, v1, v2] (.int (I a 31) :: st) (mk S I L R G) Q := r_gf i_216_36 rfl (by decide) rfl
theorem q_216_39 : XX d 216 39 [v0, v1, v2] st A Q ↔ XX d 216 40 [v0, v1, v2] (.int (w 1) :: st) A Q := c_stk i_216_39 rfl
theorem q_216_40 : XX d 216 40 [v0, v1, v2] (.int y :: .int x :: st) A Q ↔ XX d 216 41 [v0, v1, v2] (.int (x - y) :: st) A Q := c_stk i_216_40 rfl
theorem q_216_41 : XX (d + 1) 216 41 [v0, v1, v2] [.int x2, .int x1, .int x0] A Q ↔ XC d 155 [.int x0, .int x1, .int x2] A (XK (d + 1) 216 41 [v0, v1, v2] [] Q) := c_callS i_216_41 rfl rfl rfl rfl (Nat.le_of_ble_eq_true rfl) (Nat.le_of_ble_eq_true rfl)
theorem q_216_44 : XX d 216 44 [v0, v1, v2] (.int x :: st) A Q ↔ if x = w 0 then XX d 216 56 [v0, v1, v2] st A Q else XX d 216 47 [v0, v1, v2] st A Q := z_eq i_216_44 rfl rfl rfl
theorem q_216_47 : XX d 216 47 [some (.ref a), v1, v2] st A Q ↔ XX d 216 48 [some (.ref a), v1, v2] (.ref a :: st) A Q := c_lcl i_216_47 rfl rfl
theorem q_216_48 : XX d 216 48 [v0, v1, v2] (.ref a :: st) (mk S I L R G) Q ↔ S a = some (.inr 12) ∧ XX d 216 51 [v0, v1, v2] (.ref (a + 6583) :: st) (mk S I L R G) Q := r_gf i_216_48 rfl (by decide) rfl
theorem q_216_51 : XX d 216 51 [v0, v1, some (.int x)] st A Q ↔ XX d 216 52 [v0, v1, some (.int x)] (.int x :: st) A Q := c_lcl i_216_51 rfl rfl
theorem q_216_52 : XX d 216 52 [v0, v1, v2] (.int x :: .ref a :: st) (mk S I L R G) Q ↔ inA (S a) ok_i x ∧ XX d 216 53 [v0, v1, v2] (.int (I a (ix x)) :: st) (mk S I L R G) Q := r_ia i_216_52
theorem q_216_53 : XX d 216 53 [v0, v1, v2] st A Q ↔ XX d 216 57 [v0, v1, v2] st A Q := c_go i_216_53 rfl rfl
theorem q_216_56 : XX d 216 56 [v0, v1, v2] st A Q ↔ XX d 216 57 [v0, v1, v2] (.int (w (-1)) :: st) A Q := c_stk i_216_56 rfl
theorem q_216_57 : XX d 216 57 [v0, v1, v2] [.int x] A Q ↔ Q (.inl (some (.int x))) A := e_retI i_216_57 rfl
theorem q_216_e : XC d 216 [.ref a0, .int x1, .int x2] A Q ↔ XX d 216 0 [some (.ref a0), some (.int x1), some (.int x2)] [] A Q := Iff.rfl
theorem i_217_0 : t_ins 217 0 = some (.aload_n 0) := by decide +kernel
theorem i_217_1 : t_ins 217 1 = some (.iconst 0) := by decide +kernel
theorem i_217_2 : t_ins 217 2 = some (.putfield 121) := by decide +kernel
theorem i_217_5 : t_ins 217 5 = some (.aload_n 0) := by decide +kernel
theorem i_217_6 : t_ins 217 6 = some (.iload_n 1) := by decide +kernel
theorem i_217_7 : t_ins 217 7 = some (.invokestatic 245) := by decide +kernel
theorem i_217_10 : t_ins 217 10 = some (.ifCond .ne 7) := by decide +kernel
theorem i_217_13 : t_ins 217 13 = some (.iconst 1) := by decide +kernel
theorem i_217_14 : t_ins 217 14 = some (.goto 4) := by decide +kernel
theorem i_217_17 : t_ins 217 17 = some (.iconst 0) := by decide +kernel
theorem i_217_18 : t_ins 217 18 = some (.iconst 1) := by decide +kernel
theorem i_217_19 : t_ins 217 19 = some (.iconst 0) := by decide +kernel
theorem i_217_20 : t_ins 217 20 = some (.invokevirtual 234) := by decide +kernel
theorem i_217_23 : t_ins 217 23 = some (.ifCond .ne 26) := by decide +kernel
theorem i_217_26 : t_ins 217 26 = some (.aload_n 0) := by decide +kernel
theorem i_217_27 : t_ins 217 27 = some (.iload_n 2) := by decide +kernel
theorem i_217_28 : t_ins 217 28 = some (.iconst 0) := by decide +kernel
theorem i_217_29 : t_ins 217 29 = some (.iconst 3) := by decide +kernel
theorem i_217_30 : t_ins 217 30 = some (.invokestatic 230) := by decide +kernel
theorem i_217_33 : t_ins 217 33 = some (.ifCond .ne 7) := by decide +kernel
theorem i_217_36 : t_ins 217 36 = some (.iconst 1) := by decide +kernel
theorem i_217_37 : t_ins 217 37 = some (.goto 4) := by decide +kernel
theorem i_217_40 : t_ins 217 40 = some (.iconst 0) := by decide +kernel
theorem i_217_41 : t_ins 217 41 = some (.iconst 2) := by decide +kernel
theorem i_217_42 : t_ins 217 42 = some (.iconst 1) := by decide +kernel
theorem i_217_43 : t_ins 217 43 = some (.invokevirtual 234) := by decide +kernel
theorem i_217_46 : t_ins 217 46 = some (.ifCond .eq 5) := by decide +kernel
theorem i_217_49 : t_ins 217 49 = some (.iconst 0) := by decide +kernel
theorem i_217_50 : t_ins 217 50 = some (.ireturn) := by decide +kernel
theorem i_217_51 : t_ins 217 51 = some (.aload_n 0) := by decide +kernel
theorem i_217_52 : t_ins 217 52 = some (.iload_n 1) := by decide +kernel
theorem i_217_53 : t_ins 217 53 = some (.invokevirtual 333) := by decide +kernel
theorem i_217_56 : t_ins 217 56 = some (.iconst 0) := by decide +kernel
theorem i_217_57 : t_ins 217 57 = some (.istore_n 3) := by decide +kernel
theorem i_217_58 : t_ins 217 58 = some (.iconst 0) := by decide +kernel
theorem i_217_59 : t_ins 217 59 = some (.istore 4) := by decide +kernel
theorem i_217_61 : t_ins 217 61 = some (.iconst (-1)) := by decide +kernel
theorem i_217_62 : t_ins 217 62 = some (.istore 5) := by decide +kernel
theorem i_217_64 : t_ins 217 64 = some (.iconst (-1)) := by decide +kernel
theorem i_217_65 : t_ins 217 65 = some (.istore 6) := by decide +kernel
theorem i_217_67 : t_ins 217 67 = some (.iconst 0) := by decide +kernel
theorem i_217_68 : t_ins 217 68 = some (.istore 7) := by decide +kernel
theorem i_217_70 : t_ins 217 70 = some (.iload 7) := by decide +kernel
theorem i_217_72 : t_ins 217 72 = some (.aload_n 0) := by decide +kernel
theorem i_217_73 : t_ins 217 73 = some (.getfield 330) := by decide +kernel
theorem i_217_76 : t_ins 217 76 = some (.if_icmp .ge 169) := by decide +kernel
theorem i_217_79 : t_ins 217 79 = some (.iload 7) := by decide +kernel
theorem i_217_81 : t_ins 217 81 = some (.ifCond .le 30) := by decide +kernel
theorem i_217_84 : t_ins 217 84 = some (.aload_n 0) := by decide +kernel
theorem i_217_85 : t_ins 217 85 = some (.aload_n 0) := by decide +kernel
theorem i_217_86 : t_ins 217 86 = some (.getfield 73) := by decide +kernel
theorem i_217_89 : t_ins 217 89 = some (.iload 7) := by decide +kernel
theorem i_217_91 : t_ins 217 91 = some (.iconst 1) := by decide +kernel
theorem i_217_92 : t_ins 217 92 = some (.isub) := by decide +kernel
theorem i_217_93 : t_ins 217 93 = some (.iaload) := by decide +kernel
theorem i_217_94 : t_ins 217 94 = some (.aload_n 0) := by decide +kernel
theorem i_217_95 : t_ins 217 95 = some (.getfield 73) := by decide +kernel
theorem i_217_98 : t_ins 217 98 = some (.iload 7) := by decide +kernel
theorem i_217_100 : t_ins 217 100 = some (.iaload) := by decide +kernel
theorem i_217_101 : t_ins 217 101 = some (.invokevirtual 336) := by decide +kernel
theorem i_217_104 : t_ins 217 104 = some (.ifCond .eq 7) := by decide +kernel
theorem i_217_107 : t_ins 217 107 = some (.iconst 1) := by decide +kernel
theorem i_217_108 : t_ins 217 108 = some (.goto 4) := by decide +kernel
theorem i_217_111 : t_ins 217 111 = some (.iconst 0) := by decide +kernel
theorem i_217_112 : t_ins 217 112 = some (.istore 8) := by decide +kernel
theorem i_217_114 : t_ins 217 114 = some (.iload 7) := by decide +kernel
theorem i_217_116 : t_ins 217 116 = some (.iconst 1) := by decide +kernel
theorem i_217_117 : t_ins 217 117 = some (.iadd) := by decide +kernel
theorem i_217_118 : t_ins 217 118 = some (.aload_n 0) := by decide +kernel
theorem i_217_119 : t_ins 217 119 = some (.getfield 330) := by decide +kernel
theorem i_217_122 : t_ins 217 122 = some (.if_icmp .ge 30) := by decide +kernel
theorem i_217_125 : t_ins 217 125 = some (.aload_n 0) := by decide +kernel
theorem i_217_126 : t_ins 217 126 = some (.aload_n 0) := by decide +kernel
theorem i_217_127 : t_ins 217 127 = some (.getfield 73) := by decide +kernel
theorem i_217_130 : t_ins 217 130 = some (.iload 7) := by decide +kernel
theorem i_217_132 : t_ins 217 132 = some (.iaload) := by decide +kernel
theorem i_217_133 : t_ins 217 133 = some (.aload_n 0) := by decide +kernel
theorem i_217_134 : t_ins 217 134 = some (.getfield 73) := by decide +kernel
theorem i_217_137 : t_ins 217 137 = some (.iload 7) := by decide +kernel
theorem i_217_139 : t_ins 217 139 = some (.iconst 1) := by decide +kernel
theorem i_217_140 : t_ins 217 140 = some (.iadd) := by decide +kernel
theorem i_217_141 : t_ins 217 141 = some (.iaload) := by decide +kernel
theorem i_217_142 : t_ins 217 142 = some (.invokevirtual 336) := by decide +kernel
theorem i_217_145 : t_ins 217 145 = some (.ifCond .eq 7) := by decide +kernel
theorem i_217_148 : t_ins 217 148 = some (.iconst 1) := by decide +kernel
theorem i_217_149 : t_ins 217 149 = some (.goto 4) := by decide +kernel
theorem i_217_152 : t_ins 217 152 = some (.iconst 0) := by decide +kernel
theorem i_217_153 : t_ins 217 153 = some (.istore 9) := by decide +kernel
theorem i_217_155 : t_ins 217 155 = some (.iload 4) := by decide +kernel
theorem i_217_157 : t_ins 217 157 = some (.iload 8) := by decide +kernel
theorem i_217_159 : t_ins 217 159 = some (.ifCond .eq 7) := by decide +kernel
theorem i_217_162 : t_ins 217 162 = some (.iconst 0) := by decide +kernel
theorem i_217_163 : t_ins 217 163 = some (.goto 4) := by decide +kernel
theorem i_217_166 : t_ins 217 166 = some (.iconst 1) := by decide +kernel
theorem i_217_167 : t_ins 217 167 = some (.iadd) := by decide +kernel
theorem i_217_168 : t_ins 217 168 = some (.istore 4) := by decide +kernel
theorem i_217_170 : t_ins 217 170 = some (.iload_n 3) := by decide +kernel
theorem i_217_171 : t_ins 217 171 = some (.iload 8) := by decide +kernel
theorem i_217_173 : t_ins 217 173 = some (.ifCond .ne 8) := by decide +kernel
theorem i_217_176 : t_ins 217 176 = some (.iload 9) := by decide +kernel
theorem i_217_178 : t_ins 217 178 = some (.ifCond .eq 7) := by decide +kernel
theorem i_217_181 : t_ins 217 181 = some (.iconst 1) := by decide +kernel
theorem i_217_182 : t_ins 217 182 = some (.goto 4) := by decide +kernel
theorem i_217_185 : t_ins 217 185 = some (.iconst 0) := by decide +kernel
theorem i_217_186 : t_ins 217 186 = some (.iadd) := by decide +kernel
theorem i_217_187 : t_ins 217 187 = some (.istore_n 3) := by decide +kernel
theorem i_217_188 : t_ins 217 188 = some (.iload 8) := by decide +kernel
theorem i_217_190 : t_ins 217 190 = some (.ifCond .ne 49) := by decide +kernel
theorem i_217_193 : t_ins 217 193 = some (.iload 9) := by decide +kernel
theorem i_217_195 : t_ins 217 195 = some (.ifCond .eq 44) := by decide +kernel
theorem i_217_198 : t_ins 217 198 = some (.iload 5) := by decide +kernel
theorem i_217_200 : t_ins 217 200 = some (.iconst (-1)) := by decide +kernel
theorem i_217_201 : t_ins 217 201 = some (.if_icmp .eq 18) := by decide +kernel
theorem i_217_204 : t_ins 217 204 = some (.aload_n 0) := by decide +kernel
theorem i_217_205 : t_ins 217 205 = some (.getfield 73) := by decide +kernel
theorem i_217_208 : t_ins 217 208 = some (.iload 7) := by decide +kernel
theorem i_217_210 : t_ins 217 210 = some (.iaload) := by decide +kernel
theorem i_217_211 : t_ins 217 211 = some (.iload 5) := by decide +kernel
theorem i_217_213 : t_ins 217 213 = some (.if_icmp .le 6) := by decide +kernel
theorem i_217_216 : t_ins 217 216 = some (.goto 23) := by decide +kernel
theorem i_217_219 : t_ins 217 219 = some (.aload_n 0) := by decide +kernel
theorem i_217_220 : t_ins 217 220 = some (.getfield 73) := by decide +kernel
theorem i_217_223 : t_ins 217 223 = some (.iload 7) := by decide +kernel
theorem i_217_225 : t_ins 217 225 = some (.iaload) := by decide +kernel
theorem i_217_226 : t_ins 217 226 = some (.istore 5) := by decide +kernel
theorem i_217_228 : t_ins 217 228 = some (.aload_n 0) := by decide +kernel
theorem i_217_229 : t_ins 217 229 = some (.getfield 73) := by decide +kernel
theorem i_217_232 : t_ins 217 232 = some (.iload 7) := by decide +kernel
theorem i_217_234 : t_ins 217 234 = some (.iconst 1) := by decide +kernel
theorem i_217_235 : t_ins 217 235 = some (.iadd) := by decide +kernel
theorem i_217_236 : t_ins 217 236 = some (.iaload) := by decide +kernel
theorem i_217_237 : t_ins 217 237 = some (.istore 6) := by decide +kernel
theorem i_217_239 : t_ins 217 239 = some (.iinc 7 1) := by decide +kernel
theorem i_217_242 : t_ins 217 242 = some (.goto (-172)) := by decide +kernel
theorem i_217_245 : t_ins 217 245 = some (.iload_n 2) := by decide +kernel
theorem i_217_246 : t_ins 217 246 = some (.ifCond .ne 7) := by decide +kernel
theorem i_217_249 : t_ins 217 249 = some (.iload_n 3) := by decide +kernel
theorem i_217_250 : t_ins 217 250 = some (.goto 25) := by decide +kernel
theorem i_217_253 : t_ins 217 253 = some (.iload_n 2) := by decide +kernel
theorem i_217_254 : t_ins 217 254 = some (.iconst 1) := by decide +kernel
theorem i_217_255 : t_ins 217 255 = some (.if_icmp .ne 8) := by decide +kernel
theorem i_217_258 : t_ins 217 258 = some (.iload 5) := by decide +kernel
theorem i_217_260 : t_ins 217 260 = some (.goto 15) := by decide +kernel
theorem i_217_263 : t_ins 217 263 = some (.iload_n 2) := by decide +kernel
theorem i_217_264 : t_ins 217 264 = some (.iconst 2) := by decide +kernel
theorem i_217_265 : t_ins 217 265 = some (.if_icmp .ne 8) := by decide +kernel
theorem i_217_268 : t_ins 217 268 = some (.iload 6) := by decide +kernel
theorem i_217_270 : t_ins 217 270 = some (.goto 5) := by decide +kernel
theorem i_217_273 : t_ins 217 273 = some (.iload 4) := by decide +kernel
theorem i_217_275 : t_ins 217 275 = some (.ireturn) := by decide +kernel
theorem q_217_0 : XX d 217 0 [some (.ref a), v1, v2, v3, v4, v5, v6, v7, v8, v9] st A Q ↔ XX d 217 1 [some (.ref a), v1, v2, v3, v4, v5, v6, v7, v8, v9] (.ref a :: st) A Q := c_lcl i_217_0 rfl rfl
theorem q_217_1 : XX d 217 1 [v0, v1, v2, v3, v4, v5, v6, v7, v8, v9] st A Q ↔ XX d 217 2 [v0, v1, v2, v3, v4, v5, v6, v7, v8, v9] (.int (w 0) :: st) A Q := c_stk i_217_1 rfl
theorem q_217_2 : XX d 217 2 [v0, v1, v2, v3, v4, v5, v6, v7, v8, v9] (.int x :: .ref a :: st) (mk S I L R G) Q ↔ S a = some (.inr 12) ∧ XX d 217 5 [v0, v1, v2, v3, v4, v5, v6, v7, v8, v9] st (mk S (wr I a (up (I a) 0 x)) L R G) Q := r_pf i_217_2 rfl (by decide) rfl rfl rfl
theorem q_217_5 : XX d 217 5 [some (.ref a), v1, v2, v3, v4, v5, v6, v7, v8, v9] st A Q ↔ XX d 217 6 [some (.ref a), v1, v2, v3, v4, v5, v6, v7, v8, v9] (.ref a :: st) A Q := c_lcl i_217_5 rfl rfl
theorem q_217_6 : XX d 217 6 [v0, some (.int x), v2, v3, v4, v5, v6, v7, v8, v9] st A Q ↔ XX d 217 7 [v0, some (.int x), v2, v3, v4, v5, v6, v7, v8, v9] (.int x :: st) A Q := c_lcl i_217_6 rfl rfl
theorem q_217_7 : XX (d + 1) 217 7 [v0, v1, v2, v3, v4, v5, v6, v7, v8, v9] [.int x0, .ref a1] A Q ↔ XC d 182 [.int x0] A (XK (d + 1) 217 7 [v0, v1, v2, v3, v4, v5, v6, v7, v8, v9] [.ref a1] Q) := c_callS i_217_7 rfl rfl rfl rfl (Nat.le_of_ble_eq_true rfl) (Nat.le_of_ble_eq_true rfl)
theorem q_217_10 : XX d 217 10 [v0, v1, v2, v3, v4, v5, v6, v7, v8, v9] (.int x :: st) A Q ↔ if x = w 0 then XX d 217 13 [v0, v1, v2, v3, v4, v5, v6, v7, v8, v9] st A Q else XX d 217 17 [v0, v1, v2, v3, v4, v5, v6, v7, v8, v9] st A Q := z_ne i_217_10 rfl rfl rfl
theorem q_217_13 : XX d 217 13 [v0, v1, v2, v3, v4, v5, v6, v7, v8, v9] st A Q ↔ XX d 217 14 [v0, v1, v2, v3, v4, v5, v6, v7, v8, v9] (.int (w 1) :: st) A Q := c_stk i_217_13 rfl
theorem q_217_14 : XX d 217 14 [v0, v1, v2, v3, v4, v5, v6, v7, v8, v9] st A Q ↔ XX d 217 18 [v0, v1, v2, v3, v4, v5, v6, v7, v8, v9] st A Q := c_go i_217_14 rfl rfl
theorem q_217_17 : XX d 217 17 [v0, v1, v2, v3, v4, v5, v6, v7, v8, v9] st A Q ↔ XX d 217 18 [v0, v1, v2, v3, v4, v5, v6, v7, v8, v9] (.int (w 0) :: st) A Q := c_stk i_217_17 rfl
theorem q_217_18 : XX d 217 18 [v0, v1, v2, v3, v4, v5, v6, v7, v8, v9] st A Q ↔ XX d 217 19 [v0, v1, v2, v3, v4, v5, v6, v7, v8, v9] (.int (w 1) :: st) A Q := c_stk i_217_18 rfl
theorem q_217_19 : XX d 217 19 [v0, v1, v2, v3, v4, v5, v6, v7, v8, v9] st A Q ↔ XX d 217 20 [v0, v1, v2, v3, v4, v5, v6, v7, v8, v9] (.int (w 0) :: st) A Q := c_stk i_217_19 rfl
theorem q_217_20 : XX (d + 1) 217 20 [v0, v1, v2, v3, v4, v5, v6, v7, v8, v9] [.int x3, .int x2, .int x1, .ref a0] (mk S I L R G) Q ↔ S a0 = some (.inr 12) ∧ XC d 154 [.ref a0, .int x1, .int x2, .int x3] (mk S I L R G) (XK (d + 1) 217 20 [v0, v1, v2, v3, v4, v5, v6, v7, v8, v9] [] Q) := c_callV i_217_20 rfl rfl rfl rfl (Nat.le_of_ble_eq_true rfl) (Nat.le_of_ble_eq_true rfl) rfl
theorem q_217_23 : XX d 217 23 [v0, v1, v2, v3, v4, v5, v6, v7, v8, v9] (.int x :: st) A Q ↔ if x = w 0 then XX d 217 26 [v0, v1, v2, v3, v4, v5, v6, v7, v8, v9] st A Q else XX d 217 49 [v0, v1, v2, v3, v4, v5, v6, v7, v8, v9] st A Q := z_ne i_217_23 rfl rfl rfl
theorem q_217_26 : XX d 217 26 [some (.ref a), v1, v2, v3, v4, v5, v6, v7, v8, v9] st A Q ↔ XX d 217 27 [some (.ref a), v1, v2, v3, v4, v5, v6, v7, v8, v9] (.ref a :: st) A Q := c_lcl i_217_26 rfl rfl
theorem q_217_27 : XX d 217 27 [v0, v1, some (.int x), v3, v4, v5, v6, v7, v8, v9] st A Q ↔ XX d 217 28 [v0, v1, some (.int x), v3, v4, v5, v6, v7, v8, v9] (.int x :: st) A Q := c_lcl i_217_27 rfl rfl
theorem q_217_28 : XX d 217 28 [v0, v1, v2, v3, v4, v5, v6, v7, v8, v9] st A Q ↔ XX d 217 29 [v0, v1, v2, v3, v4, v5, v6, v7, v8, v9] (.int (w 0) :: st) A Q := c_stk i_217_28 rfl
theorem q_217_29 : XX d 217 29 [v0, v1, v2, v3, v4, v5, v6, v7, v8, v9] st A Q ↔ XX d 217 30 [v0, v1, v2, v3, v4, v5, v6, v7, v8, v9] (.int (w 3) :: st) A Q := c_stk i_217_29 rfl
theorem q_217_30 : XX (d + 1) 217 30 [v0, v1, v2, v3, v4, v5, v6, v7, v8, v9] [.int x2, .int x1, .int x0, .ref a3] A Q ↔ XC d 155 [.int x0, .int x1, .int x2] A (XK (d + 1) 217 30 [v0, v1, v2, v3, v4, v5, v6, v7, v8, v9] [.ref a3] Q) := c_callS i_217_30 rfl rfl rfl rfl (Nat.le_of_ble_eq_true rfl) (Nat.le_of_ble_eq_true rfl)
theorem q_217_33 : XX d 217 33 [v0, v1, v2, v3, v4, v5, v6, v7, v8, v9] (.int x :: st) A Q ↔ if x = w 0 then XX d 217 36 [v0, v1, v2, v3, v4, v5, v6, v7, v8, v9] st A Q else XX d 217 40 [v0, v1, v2, v3, v4, v5, v6, v7, v8, v9] st A Q := z_ne i_217_33 rfl rfl rfl
theorem q_217_36 : XX d 217 36 [v0, v1, v2, v3, v4, v5, v6, v7, v8, v9] st A Q ↔ XX d 217 37 [v0, v1, v2, v3, v4, v5, v6, v7, v8, v9] (.int (w 1) :: st) A Q := c_stk i_217_36 rfl
theorem q_217_37 : XX d 217 37 [v0, v1, v2, v3, v4, v5, v6, v7, v8, v9] st A Q ↔ XX d 217 41 [v0, v1, v2, v3, v4, v5, v6, v7, v8, v9] st A Q := c_go i_217_37 rfl rfl
theorem q_217_40 : XX d 217 40 [v0, v1, v2, v3, v4, v5, v6, v7, v8, v9] st A Q ↔ XX d 217 41 [v0, v1, v2, v3, v4, v5, v6, v7, v8, v9] (.int (w 0) :: st) A Q := c_stk i_217_40 rfl
theorem q_217_41 : XX d 217 41 [v0, v1, v2, v3, v4, v5, v6, v7, v8, v9] st A Q ↔ XX d 217 42 [v0, v1, v2, v3, v4, v5, v6, v7, v8, v9] (.int (w 2) :: st) A Q := c_stk i_217_41 rfl
theorem q_217_42 : XX d 217 42 [v0, v1, v2, v3, v4, v5, v6, v7, v8, v9] st A Q ↔ XX d 217 43 [v0, v1, v2, v3, v4, v5, v6, v7, v8, v9] (.int (w 1) :: st) A Q := c_stk i_217_42 rfl
theorem q_217_43 : XX (d + 1) 217 43 [v0, v1, v2, v3, v4, v5, v6, v7, v8, v9] [.int x3, .int x2, .int x1, .ref a0] (mk S I L R G) Q ↔ S a0 = some (.inr 12) ∧ XC d 154 [.ref a0, .int x1, .int x2, .int x3] (mk S I L R G) (XK (d + 1) 217 43 [v0, v1, v2, v3, v4, v5, v6, v7, v8, v9] [] Q) := c_callV i_217_43 rfl rfl rfl rfl (Nat.le_of_ble_eq_true rfl) (Nat.le_of_ble_eq_true rfl) rfl
theorem q_217_46 : XX d 217 46 [v0, v1, v2, v3, v4, v5, v6, v7, v8, v9] (.int x :: st) A Q ↔ if x = w 0 then XX d 217 51 [v0, v1, v2, v3, v4, v5, v6, v7, v8, v9] st A Q else XX d 217 49 [v0, v1, v2, v3, v4, v5, v6, v7, v8, v9] st A Q := z_eq i_217_46 rfl rfl rfl
theorem q_217_49 : XX d 217 49 [v0, v1, v2, v3, v4, v5, v6, v7, v8, v9] st A Q ↔ XX d 217 50 [v0, v1, v2, v3, v4, v5, v6, v7, v8, v9] (.int (w 0) :: st) A Q := c_stk i_217_49 rfl
theorem q_217_50 : XX d 217 50 [v0, v1, v2, v3, v4, v5, v6, v7, v8, v9] [.int x] A Q ↔ Q (.inl (some (.int x))) A := e_retI i_217_50 rfl
theorem q_217_51 : XX d 217 51 [some (.ref a), v1, v2, v3, v4, v5, v6, v7, v8, v9] st A Q ↔ XX d 217 52 [some (.ref a), v1, v2, v3, v4, v5, v6, v7, v8, v9] (.ref a :: st) A Q := c_lcl i_217_51 rfl rfl
theorem q_217_52 : XX d 217 52 [v0, some (.int x), v2, v3, v4, v5, v6, v7, v8, v9] st A Q ↔ XX d 217 53 [v0, some (.int x), v2, v3, v4, v5, v6, v7, v8, v9] (.int x :: st) A Q := c_lcl i_217_52 rfl rfl
theorem q_217_53 : XX (d + 1) 217 53 [v0, v1, v2, v3, v4, v5, v6, v7, v8, v9] [.int x1, .ref a0] (mk S I L R G) Q ↔ S a0 = some (.inr 12) ∧ XC d 215 [.ref a0, .int x1] (mk S I L R G) (XK (d + 1) 217 53 [v0, v1, v2, v3, v4, v5, v6, v7, v8, v9] [] Q) := c_callV i_217_53 rfl rfl rfl rfl (Nat.le_of_ble_eq_true rfl) (Nat.le_of_ble_eq_true rfl) rfl
theorem q_217_56 : XX d 217 56 [v0, v1, v2, v3, v4, v5, v6, v7, v8, v9] st A Q ↔ XX d 217 57 [v0, v1, v2, v3, v4, v5, v6, v7, v8, v9] (.int (w 0) :: st) A Q := c_stk i_217_56 rfl
theorem q_217_57 : XX d 217 57 [v0, v1, some (.int z), v3, v4, v5, v6, v7, v8, v9] (.int x :: st) A Q ↔ XX d 217 58 [v0, v1, some (.int z), some (.int x), v4, v5, v6, v7, v8, v9] st A Q := c_lcl i_217_57 rfl rfl
theorem q_217_58 : XX d 217 58 [v0, v1, v2, v3, v4, v5, v6, v7, v8, v9] st A Q ↔ XX d 217 59 [v0, v1, v2, v3, v4, v5, v6, v7, v8, v9] (.int (w 0) :: st) A Q := c_stk i_217_58 rfl
theorem q_217_59 : XX d 217 59 [v0, v1, v2, some (.int z), v4, v5, v6, v7, v8, v9] (.int x :: st) A Q ↔ XX d 217 61 [v0, v1, v2, some (.int z), some (.int x), v5, v6, v7, v8, v9] st A Q := c_lcl i_217_59 rfl rfl
theorem q_217_61 : XX d 217 61 [v0, v1, v2, v3, v4, v5, v6, v7, v8, v9] st A Q ↔ XX d 217 62 [v0, v1, v2, v3, v4, v5, v6, v7, v8, v9] (.int (w (-1)) :: st) A Q := c_stk i_217_61 rfl
theorem q_217_62 : XX d 217 62 [v0, v1, v2, v3, some (.int z), v5, v6, v7, v8, v9] (.int x :: st) A Q ↔ XX d 217 64 [v0, v1, v2, v3, some (.int z), some (.int x), v6, v7, v8, v9] st A Q := c_lcl i_217_62 rfl rfl
theorem q_217_64 : XX d 217 64 [v0, v1, v2, v3, v4, v5, v6, v7, v8, v9] st A Q ↔ XX d 217 65 [v0, v1, v2, v3, v4, v5, v6, v7, v8, v9] (.int (w (-1)) :: st) A Q := c_stk i_217_64 rfl
theorem q_217_65 : XX d 217 65 [v0, v1, v2, v3, v4, some (.int z), v6, v7, v8, v9] (.int x :: st) A Q ↔ XX d 217 67 [v0, v1, v2, v3, v4, some (.int z), some (.int x), v7, v8, v9] st A Q := c_lcl i_217_65 rfl rfl
theorem q_217_67 : XX d 217 67 [v0, v1, v2, v3, v4, v5, v6, v7, v8, v9] st A Q ↔ XX d 217 68 [v0, v1, v2, v3, v4, v5, v6, v7, v8, v9] (.int (w 0) :: st) A Q := c_stk i_217_67 rfl
theorem q_217_68 : XX d 217 68 [v0, v1, v2, v3, v4, v5, some (.int z), v7, v8, v9] (.int x :: st) A Q ↔ XX d 217 70 [v0, v1, v2, v3, v4, v5, some (.int z), some (.int x), v8, v9] st A Q := c_lcl i_217_68 rfl rfl
theorem q_217_70 : XX d 217 70 [v0, v1, v2, v3, v4, v5, v6, some (.int x), v8, v9] st A Q ↔ XX d 217 72 [v0, v1, v2, v3, v4, v5, v6, some (.int x), v8, v9] (.int x :: st) A Q := c_lcl i_217_70 rfl rfl
theorem q_217_72 : XX d 217 72 [some (.ref a), v1, v2, v3, v4, v5, v6, v7, v8, v9] st A Q ↔ XX d 217 73 [some (.ref a), v1, v2, v3, v4, v5, v6, v7, v8, v9] (.ref a :: st) A Q := c_lcl i_217_72 rfl rfl
theorem q_217_73 : XX d 217 73 [v0, v1, v2, v3, v4, v5, v6, v7, v8, v9] (.ref a :: st) (mk S I L R G) Q ↔ S a = some (.inr 12) ∧ XX d 217 76 [v0, v1, v2, v3, v4, v5, v6, v7, v8, v9] (.int (I a 31) :: st) (mk S I L R G) Q := r_gf i_217_73 rfl (by decide) rfl
theorem q_217_76 : XX d 217 76 [v0, v1, v2, v3, v4, v5, v6, v7, v8, v9] (.int y :: .int x :: st) A Q ↔ if x < y then XX d 217 79 [v0, v1, v2, v3, v4, v5, v6, v7, v8, v9] st A Q else XX d 217 245 [v0, v1, v2, v3, v4, v5, v6, v7, v8, v9] st A Q := b_ge i_217_76 rfl rfl rfl
theorem q_217_79 : XX d 217 79 [v0, v1, v2, v3, v4, v5, v6, some (.int x), v8, v9] st A Q ↔ XX d 217 81 [v0, v1, v2, v3, v4, v5, v6, some (.int x), v8, v9] (.int x :: st) A Q := c_lcl i_217_79 rfl rfl
theorem q_217_81 : XX d 217 81 [v0, v1, v2, v3, v4, v5, v6, v7, v8, v9] (.int x :: st) A Q ↔ if w 0 < x then XX d 217 84 [v0, v1, v2, v3, v4, v5, v6, v7, v8, v9] st A Q else XX d 217 111 [v0, v1, v2, v3, v4, v5, v6, v7, v8, v9] st A Q := z_le i_217_81 rfl rfl rfl
theorem q_217_84 : XX d 217 84 [some (.ref a), v1, v2, v3, v4, v5, v6, v7, v8, v9] st A Q ↔ XX d 217 85 [some (.ref a), v1, v2, v3, v4, v5, v6, v7, v8, v9] (.ref a :: st) A Q := c_lcl i_217_84 rfl rfl
theorem q_217_85 : XX d 217 85 [some (.ref a), v1, v2, v3, v4, v5, v6, v7, v8, v9] st A Q ↔ XX d 217 86 [some (.ref a), v1, v2, v3, v4, v5, v6, v7, v8, v9] (.ref a :: st) A Q := c_lcl i_217_85 rfl rfl
theorem q_217_86 : XX d 217 86 [v0, v1, v2, v3, v4, v5, v6, v7, v8, v9] (.ref a :: st) (mk S I L R G) Q ↔ S a = some (.inr 12) ∧ XX d 217 89 [v0, v1, v2, v3, v4, v5, v6, v7, v8, v9] (.ref (a + 6583) :: st) (mk S I L R G) Q := r_gf i_217_86 rfl (by decide) rfl
theorem q_217_89 : XX d 217 89 [v0, v1, v2, v3, v4, v5, v6, some (.int x), v8, v9] st A Q ↔ XX d 217 91 [v0, v1, v2, v3, v4, v5, v6, some (.int x), v8, v9] (.int x :: st) A Q := c_lcl i_217_89 rfl rfl
theorem q_217_91 : XX d 217 91 [v0, v1, v2, v3, v4, v5, v6, v7, v8, v9] st A Q ↔ XX d 217 92 [v0, v1, v2, v3, v4, v5, v6, v7, v8, v9] (.int (w 1) :: st) A Q := c_stk i_217_91 rfl
theorem q_217_92 : XX d 217 92 [v0, v1, v2, v3, v4, v5, v6, v7, v8, v9] (.int y :: .int x :: st) A Q ↔ XX d 217 93 [v0, v1, v2, v3, v4, v5, v6, v7, v8, v9] (.int (x - y) :: st) A Q := c_stk i_217_92 rfl
theorem q_217_93 : XX d 217 93 [v0, v1, v2, v3, v4, v5, v6, v7, v8, v9] (.int x :: .ref a :: st) (mk S I L R G) Q ↔ inA (S a) ok_i x ∧ XX d 217 94 [v0, v1, v2, v3, v4, v5, v6, v7, v8, v9] (.int (I a (ix x)) :: st) (mk S I L R G) Q := r_ia i_217_93
theorem q_217_94 : XX d 217 94 [some (.ref a), v1, v2, v3, v4, v5, v6, v7, v8, v9] st A Q ↔ XX d 217 95 [some (.ref a), v1, v2, v3, v4, v5, v6, v7, v8, v9] (.ref a :: st) A Q := c_lcl i_217_94 rfl rfl
theorem q_217_95 : XX d 217 95 [v0, v1, v2, v3, v4, v5, v6, v7, v8, v9] (.ref a :: st) (mk S I L R G) Q ↔ S a = some (.inr 12) ∧ XX d 217 98 [v0, v1, v2, v3, v4, v5, v6, v7, v8, v9] (.ref (a + 6583) :: st) (mk S I L R G) Q := r_gf i_217_95 rfl (by decide) rfl
theorem q_217_98 : XX d 217 98 [v0, v1, v2, v3, v4, v5, v6, some (.int x), v8, v9] st A Q ↔ XX d 217 100 [v0, v1, v2, v3, v4, v5, v6, some (.int x), v8, v9] (.int x :: st) A Q := c_lcl i_217_98 rfl rfl
theorem q_217_100 : XX d 217 100 [v0, v1, v2, v3, v4, v5, v6, v7, v8, v9] (.int x :: .ref a :: st) (mk S I L R G) Q ↔ inA (S a) ok_i x ∧ XX d 217 101 [v0, v1, v2, v3, v4, v5, v6, v7, v8, v9] (.int (I a (ix x)) :: st) (mk S I L R G) Q := r_ia i_217_100
theorem q_217_101 : XX (d + 1) 217 101 [v0, v1, v2, v3, v4, v5, v6, v7, v8, v9] [.int x2, .int x1, .ref a0] (mk S I L R G) Q ↔ S a0 = some (.inr 12) ∧ XC d 196 [.ref a0, .int x1, .int x2] (mk S I L R G) (XK (d + 1) 217 101 [v0, v1, v2, v3, v4, v5, v6, v7, v8, v9] [] Q) := c_callV i_217_101 rfl rfl rfl rfl (Nat.le_of_ble_eq_true rfl) (Nat.le_of_ble_eq_true rfl) rfl
theorem q_217_104 : XX d 217 104 [v0, v1, v2, v3, v4, v5, v6, v7, v8, v9] (.int x :: st) A Q ↔ if x = w 0 then XX d 217 111 [v0, v1, v2, v3, v4, v5, v6, v7, v8, v9] st A Q else XX d 217 107 [v0, v1, v2, v3, v4, v5, v6, v7, v8, v9] st A Q := z_eq i_217_104 rfl rfl rfl
theorem q_217_107 : XX d 217 107 [v0, v1, v2, v3, v4, v5, v6, v7, v8, v9] st A Q ↔ XX d 217 108 [v0, v1, v2, v3, v4, v5, v6, v7, v8, v9] (.int (w 1) :: st) A Q := c_stk i_217_107 rfl
theorem q_217_108 : XX d 217 108 [v0, v1, v2, v3, v4, v5, v6, v7, v8, v9] st A Q ↔ XX d 217 112 [v0, v1, v2, v3, v4, v5, v6, v7, v8, v9] st A Q := c_go i_217_108 rfl rfl
theorem q_217_111 : XX d 217 111 [v0, v1, v2, v3, v4, v5, v6, v7, v8, v9] st A Q ↔ XX d 217 112 [v0, v1, v2, v3, v4, v5, v6, v7, v8, v9] (.int (w 0) :: st) A Q := c_stk i_217_111 rfl
theorem q_217_112 : XX d 217 112 [v0, v1, v2, v3, v4, v5, v6, some (.int z), v8, v9] (.int x :: st) A Q ↔ XX d 217 114 [v0, v1, v2, v3, v4, v5, v6, some (.int z), some (.int x), v9] st A Q := c_lcl i_217_112 rfl rfl
theorem q_217_114 : XX d 217 114 [v0, v1, v2, v3, v4, v5, v6, some (.int x), v8, v9] st A Q ↔ XX d 217 116 [v0, v1, v2, v3, v4, v5, v6, some (.int x), v8, v9] (.int x :: st) A Q := c_lcl i_217_114 rfl rfl
theorem q_217_116 : XX d 217 116 [v0, v1, v2, v3, v4, v5, v6, v7, v8, v9] st A Q ↔ XX d 217 117 [v0, v1, v2, v3, v4, v5, v6, v7, v8, v9] (.int (w 1) :: st) A Q := c_stk i_217_116 rfl
theorem q_217_117 : XX d 217 117 [v0, v1, v2, v3, v4, v5, v6, v7, v8, v9] (.int y :: .int x :: st) A Q ↔ XX d 217 118 [v0, v1, v2, v3, v4, v5, v6, v7, v8, v9] (.int (x + y) :: st) A Q := c_stk i_217_117 rfl
theorem q_217_118 : XX d 217 118 [some (.ref a), v1, v2, v3, v4, v5, v6, v7, v8, v9] st A Q ↔ XX d 217 119 [some (.ref a), v1, v2, v3, v4, v5, v6, v7, v8, v9] (.ref a :: st) A Q := c_lcl i_217_118 rfl rfl
theorem q_217_119 : XX d 217 119 [v0, v1, v2, v3, v4, v5, v6, v7, v8, v9] (.ref a :: st) (mk S I L R G) Q ↔ S a = some (.inr 12) ∧ XX d 217 122 [v0, v1, v2, v3, v4, v5, v6, v7, v8, v9] (.int (I a 31) :: st) (mk S I L R G) Q := r_gf i_217_119 rfl (by decide) rfl
theorem q_217_122 : XX d 217 122 [v0, v1, v2, v3, v4, v5, v6, v7, v8, v9] (.int y :: .int x :: st) A Q ↔ if x < y then XX d 217 125 [v0, v1, v2, v3, v4, v5, v6, v7, v8, v9] st A Q else XX d 217 152 [v0, v1, v2, v3, v4, v5, v6, v7, v8, v9] st A Q := b_ge i_217_122 rfl rfl rfl
theorem q_217_125 : XX d 217 125 [some (.ref a), v1, v2, v3, v4, v5, v6, v7, v8, v9] st A Q ↔ XX d 217 126 [some (.ref a), v1, v2, v3, v4, v5, v6, v7, v8, v9] (.ref a :: st) A Q := c_lcl i_217_125 rfl rfl
theorem q_217_126 : XX d 217 126 [some (.ref a), v1, v2, v3, v4, v5, v6, v7, v8, v9] st A Q ↔ XX d 217 127 [some (.ref a), v1, v2, v3, v4, v5, v6, v7, v8, v9] (.ref a :: st) A Q := c_lcl i_217_126 rfl rfl
theorem q_217_127 : XX d 217 127 [v0, v1, v2, v3, v4, v5, v6, v7, v8, v9] (.ref a :: st) (mk S I L R G) Q ↔ S a = some (.inr 12) ∧ XX d 217 130 [v0, v1, v2, v3, v4, v5, v6, v7, v8, v9] (.ref (a + 6583) :: st) (mk S I L R G) Q := r_gf i_217_127 rfl (by decide) rfl
theorem q_217_130 : XX d 217 130 [v0, v1, v2, v3, v4, v5, v6, some (.int x), v8, v9] st A Q ↔ XX d 217 132 [v0, v1, v2, v3, v4, v5, v6, some (.int x), v8, v9] (.int x :: st) A Q := c_lcl i_217_130 rfl rfl
theorem q_217_132 : XX d 217 132 [v0, v1, v2, v3, v4, v5, v6, v7, v8, v9] (.int x :: .ref a :: st) (mk S I L R G) Q ↔ inA (S a) ok_i x ∧ XX d 217 133 [v0, v1, v2, v3, v4, v5, v6, v7, v8, v9] (.int (I a (ix x)) :: st) (mk S I L R G) Q := r_ia i_217_132
theorem q_217_133 : XX d 217 133 [some (.ref a), v1, v2, v3, v4, v5, v6, v7, v8, v9] st A Q ↔ XX d 217 134 [some (.ref a), v1, v2, v3, v4, v5, v6, v7, v8, v9] (.ref a :: st) A Q := c_lcl i_217_133 rfl rfl
theorem q_217_134 : XX d 217 134 [v0, v1, v2, v3, v4, v5, v6, v7, v8, v9] (.ref a :: st) (mk S I L R G) Q ↔ S a = some (.inr 12) ∧ XX d 217 137 [v0, v1, v2, v3, v4, v5, v6, v7, v8, v9] (.ref (a + 6583) :: st) (mk S I L R G) Q := r_gf i_217_134 rfl (by decide) rfl
theorem q_217_137 : XX d 217 137 [v0, v1, v2, v3, v4, v5, v6, some (.int x), v8, v9] st A Q ↔ XX d 217 139 [v0, v1, v2, v3, v4, v5, v6, some (.int x), v8, v9] (.int x :: st) A Q := c_lcl i_217_137 rfl rfl
theorem q_217_139 : XX d 217 139 [v0, v1, v2, v3, v4, v5, v6, v7, v8, v9] st A Q ↔ XX d 217 140 [v0, v1, v2, v3, v4, v5, v6, v7, v8, v9] (.int (w 1) :: st) A Q := c_stk i_217_139 rfl
theorem q_217_140 : XX d 217 140 [v0, v1, v2, v3, v4, v5, v6, v7, v8, v9] (.int y :: .int x :: st) A Q ↔ XX d 217 141 [v0, v1, v2, v3, v4, v5, v6, v7, v8, v9] (.int (x + y) :: st) A Q := c_stk i_217_140 rfl
theorem q_217_141 : XX d 217 141 [v0, v1, v2, v3, v4, v5, v6, v7, v8, v9] (.int x :: .ref a :: st) (mk S I L R G) Q ↔ inA (S a) ok_i x ∧ XX d 217 142 [v0, v1, v2, v3, v4, v5, v6, v7, v8, v9] (.int (I a (ix x)) :: st) (mk S I L R G) Q := r_ia i_217_141
theorem q_217_142 : XX (d + 1) 217 142 [v0, v1, v2, v3, v4, v5, v6, v7, v8, v9] [.int x2, .int x1, .ref a0] (mk S I L R G) Q ↔ S a0 = some (.inr 12) ∧ XC d 196 [.ref a0, .int x1, .int x2] (mk S I L R G) (XK (d + 1) 217 142 [v0, v1, v2, v3, v4, v5, v6, v7, v8, v9] [] Q) := c_callV i_217_142 rfl rfl rfl rfl (Nat.le_of_ble_eq_true rfl) (Nat.le_of_ble_eq_true rfl) rfl
theorem q_217_145 : XX d 217 145 [v0, v1, v2, v3, v4, v5, v6, v7, v8, v9] (.int x :: st) A Q ↔ if x = w 0 then XX d 217 152 [v0, v1, v2, v3, v4, v5, v6, v7, v8, v9] st A Q else XX d 217 148 [v0, v1, v2, v3, v4, v5, v6, v7, v8, v9] st A Q := z_eq i_217_145 rfl rfl rfl
theorem q_217_148 : XX d 217 148 [v0, v1, v2, v3, v4, v5, v6, v7, v8, v9] st A Q ↔ XX d 217 149 [v0, v1, v2, v3, v4, v5, v6, v7, v8, v9] (.int (w 1) :: st) A Q := c_stk i_217_148 rfl
theorem q_217_149 : XX d 217 149 [v0, v1, v2, v3, v4, v5, v6, v7, v8, v9] st A Q ↔ XX d 217 153 [v0, v1, v2, v3, v4, v5, v6, v7, v8, v9] st A Q := c_go i_217_149 rfl rfl
theorem q_217_152 : XX d 217 152 [v0, v1, v2, v3, v4, v5, v6, v7, v8, v9] st A Q ↔ XX d 217 153 [v0, v1, v2, v3, v4, v5, v6, v7, v8, v9] (.int (w 0) :: st) A Q := c_stk i_217_152 rfl
theorem q_217_153 : XX d 217 153 [v0, v1, v2, v3, v4, v5, v6, v7, some (.int z), v9] (.int x :: st) A Q ↔ XX d 217 155 [v0, v1, v2, v3, v4, v5, v6, v7, some (.int z), some (.int x)] st A Q := c_lcl i_217_153 rfl rfl
theorem q_217_155 : XX d 217 155 [v0, v1, v2, v3, some (.int x), v5, v6, v7, v8, v9] st A Q ↔ XX d 217 157 [v0, v1, v2, v3, some (.int x), v5, v6, v7, v8, v9] (.int x :: st) A Q := c_lcl i_217_155 rfl rfl
theorem q_217_157 : XX d 217 157 [v0, v1, v2, v3, v4, v5, v6, v7, some (.int x), v9] st A Q ↔ XX d 217 159 [v0, v1, v2, v3, v4, v5, v6, v7, some (.int x), v9] (.int x :: st) A Q := c_lcl i_217_157 rfl rfl
theorem q_217_159 : XX d 217 159 [v0, v1, v2, v3, v4, v5, v6, v7, v8, v9] (.int x :: st) A Q ↔ if x = w 0 then XX d 217 166 [v0, v1, v2, v3, v4, v5, v6, v7, v8, v9] st A Q else XX d 217 162 [v0, v1, v2, v3, v4, v5, v6, v7, v8, v9] st A Q := z_eq i_217_159 rfl rfl rfl
theorem q_217_162 : XX d 217 162 [v0, v1, v2, v3, v4, v5, v6, v7, v8, v9] st A Q ↔ XX d 217 163 [v0, v1, v2, v3, v4, v5, v6, v7, v8, v9] (.int (w 0) :: st) A Q := c_stk i_217_162 rfl
theorem q_217_163 : XX d 217 163 [v0, v1, v2, v3, v4, v5, v6, v7, v8, v9] st A Q ↔ XX d 217 167 [v0, v1, v2, v3, v4, v5, v6, v7, v8, v9] st A Q := c_go i_217_163 rfl rfl
theorem q_217_166 : XX d 217 166 [v0, v1, v2, v3, v4, v5, v6, v7, v8, v9] st A Q ↔ XX d 217 167 [v0, v1, v2, v3, v4, v5, v6, v7, v8, v9] (.int (w 1) :: st) A Q := c_stk i_217_166 rfl
theorem q_217_167 : XX d 217 167 [v0, v1, v2, v3, v4, v5, v6, v7, v8, v9] (.int y :: .int x :: st) A Q ↔ XX d 217 168 [v0, v1, v2, v3, v4, v5, v6, v7, v8, v9] (.int (x + y) :: st) A Q := c_stk i_217_167 rfl
theorem q_217_168 : XX d 217 168 [v0, v1, v2, some (.int z), v4, v5, v6, v7, v8, v9] (.int x :: st) A Q ↔ XX d 217 170 [v0, v1, v2, some (.int z), some (.int x), v5, v6, v7, v8, v9] st A Q := c_lcl i_217_168 rfl rfl
theorem q_217_170 : XX d 217 170 [v0, v1, v2, some (.int x), v4, v5, v6, v7, v8, v9] st A Q ↔ XX d 217 171 [v0, v1, v2, some (.int x), v4, v5, v6, v7, v8, v9] (.int x :: st) A Q := c_lcl i_217_170 rfl rfl
theorem q_217_171 : XX d 217 171 [v0, v1, v2, v3, v4, v5, v6, v7, some (.int x), v9] st A Q ↔ XX d 217 173 [v0, v1, v2, v3, v4, v5, v6, v7, some (.int x), v9] (.int x :: st) A Q := c_lcl i_217_171 rfl rfl
theorem q_217_173 : XX d 217 173 [v0, v1, v2, v3, v4, v5, v6, v7, v8, v9] (.int x :: st) A Q ↔ if x = w 0 then XX d 217 176 [v0, v1, v2, v3, v4, v5, v6, v7, v8, v9] st A Q else XX d 217 181 [v0, v1, v2, v3, v4, v5, v6, v7, v8, v9] st A Q := z_ne i_217_173 rfl rfl rfl
theorem q_217_176 : XX d 217 176 [v0, v1, v2, v3, v4, v5, v6, v7, v8, some (.int x)] st A Q ↔ XX d 217 178 [v0, v1, v2, v3, v4, v5, v6, v7, v8, some (.int x)] (.int x :: st) A Q := c_lcl i_217_176 rfl rfl
theorem q_217_178 : XX d 217 178 [v0, v1, v2, v3, v4, v5, v6, v7, v8, v9] (.int x :: st) A Q ↔ if x = w 0 then XX d 217 185 [v0, v1, v2, v3, v4, v5, v6, v7, v8, v9] st A Q else XX d 217 181 [v0, v1, v2, v3, v4, v5, v6, v7, v8, v9] st A Q := z_eq i_217_178 rfl rfl rfl
theorem q_217_181 : XX d 217 181 [v0, v1, v2, v3, v4, v5, v6, v7, v8, v9] st A Q ↔ XX d 217 182 [v0, v1, v2, v3, v4, v5, v6, v7, v8, v9] (.int (w 1) :: st) A Q := c_stk i_217_181 rfl
theorem q_217_182 : XX d 217 182 [v0, v1, v2, v3, v4, v5, v6, v7, v8, v9] st A Q ↔ XX d 217 186 [v0, v1, v2, v3, v4, v5, v6, v7, v8, v9] st A Q := c_go i_217_182 rfl rfl
theorem q_217_185 : XX d 217 185 [v0, v1, v2, v3, v4, v5, v6, v7, v8, v9] st A Q ↔ XX d 217 186 [v0, v1, v2, v3, v4, v5, v6, v7, v8, v9] (.int (w 0) :: st) A Q := c_stk i_217_185 rfl
theorem q_217_186 : XX d 217 186 [v0, v1, v2, v3, v4, v5, v6, v7, v8, v9] (.int y :: .int x :: st) A Q ↔ XX d 217 187 [v0, v1, v2, v3, v4, v5, v6, v7, v8, v9] (.int (x + y) :: st) A Q := c_stk i_217_186 rfl
theorem q_217_187 : XX d 217 187 [v0, v1, some (.int z), v3, v4, v5, v6, v7, v8, v9] (.int x :: st) A Q ↔ XX d 217 188 [v0, v1, some (.int z), some (.int x), v4, v5, v6, v7, v8, v9] st A Q := c_lcl i_217_187 rfl rfl
theorem q_217_188 : XX d 217 188 [v0, v1, v2, v3, v4, v5, v6, v7, some (.int x), v9] st A Q ↔ XX d 217 190 [v0, v1, v2, v3, v4, v5, v6, v7, some (.int x), v9] (.int x :: st) A Q := c_lcl i_217_188 rfl rfl
theorem q_217_190 : XX d 217 190 [v0, v1, v2, v3, v4, v5, v6, v7, v8, v9] (.int x :: st) A Q ↔ if x = w 0 then XX d 217 193 [v0, v1, v2, v3, v4, v5, v6, v7, v8, v9] st A Q else XX d 217 239 [v0, v1, v2, v3, v4, v5, v6, v7, v8, v9] st A Q := z_ne i_217_190 rfl rfl rfl
theorem q_217_193 : XX d 217 193 [v0, v1, v2, v3, v4, v5, v6, v7, v8, some (.int x)] st A Q ↔ XX d 217 195 [v0, v1, v2, v3, v4, v5, v6, v7, v8, some (.int x)] (.int x :: st) A Q := c_lcl i_217_193 rfl rfl
theorem q_217_195 : XX d 217 195 [v0, v1, v2, v3, v4, v5, v6, v7, v8, v9] (.int x :: st) A Q ↔ if x = w 0 then XX d 217 239 [v0, v1, v2, v3, v4, v5, v6, v7, v8, v9] st A Q else XX d 217 198 [v0, v1, v2, v3, v4, v5, v6, v7, v8, v9] st A Q := z_eq i_217_195 rfl rfl rfl
theorem q_217_198 : XX d 217 198 [v0, v1, v2, v3, v4, some (.int x), v6, v7, v8, v9] st A Q ↔ XX d 217 200 [v0, v1, v2, v3, v4, some (.int x), v6, v7, v8, v9] (.int x :: st) A Q := c_lcl i_217_198 rfl rfl
theorem q_217_200 : XX d 217 200 [v0, v1, v2, v3, v4, v5, v6, v7, v8, v9] st A Q ↔ XX d 217 201 [v0, v1, v2, v3, v4, v5, v6, v7, v8, v9] (.int (w (-1)) :: st) A Q := c_stk i_217_200 rfl
theorem q_217_201 : XX d 217 201 [v0, v1, v2, v3, v4, v5, v6, v7, v8, v9] (.int y :: .int x :: st) A Q ↔ if x = y then XX d 217 219 [v0, v1, v2, v3, v4, v5, v6, v7, v8, v9] st A Q else XX d 217 204 [v0, v1, v2, v3, v4, v5, v6, v7, v8, v9] st A Q := b_eq i_217_201 rfl rfl rfl
theorem q_217_204 : XX d 217 204 [some (.ref a), v1, v2, v3, v4, v5, v6, v7, v8, v9] st A Q ↔ XX d 217 205 [some (.ref a), v1, v2, v3, v4, v5, v6, v7, v8, v9] (.ref a :: st) A Q := c_lcl i_217_204 rfl rfl
theorem q_217_205 : XX d 217 205 [v0, v1, v2, v3, v4, v5, v6, v7, v8, v9] (.ref a :: st) (mk S I L R G) Q ↔ S a = some (.inr 12) ∧ XX d 217 208 [v0, v1, v2, v3, v4, v5, v6, v7, v8, v9] (.ref (a + 6583) :: st) (mk S I L R G) Q := r_gf i_217_205 rfl (by decide) rfl
theorem q_217_208 : XX d 217 208 [v0, v1, v2, v3, v4, v5, v6, some (.int x), v8, v9] st A Q ↔ XX d 217 210 [v0, v1, v2, v3, v4, v5, v6, some (.int x), v8, v9] (.int x :: st) A Q := c_lcl i_217_208 rfl rfl
theorem q_217_210 : XX d 217 210 [v0, v1, v2, v3, v4, v5, v6, v7, v8, v9] (.int x :: .ref a :: st) (mk S I L R G) Q ↔ inA (S a) ok_i x ∧ XX d 217 211 [v0, v1, v2, v3, v4, v5, v6, v7, v8, v9] (.int (I a (ix x)) :: st) (mk S I L R G) Q := r_ia i_217_210
theorem q_217_211 : XX d 217 211 [v0, v1, v2, v3, v4, some (.int x), v6, v7, v8, v9] st A Q ↔ XX d 217 213 [v0, v1, v2, v3, v4, some (.int x), v6, v7, v8, v9] (.int x :: st) A Q := c_lcl i_217_211 rfl rfl
theorem q_217_213 : XX d 217 213 [v0, v1, v2, v3, v4, v5, v6, v7, v8, v9] (.int y :: .int x :: st) A Q ↔ if y < x then XX d 217 216 [v0, v1, v2, v3, v4, v5, v6, v7, v8, v9] st A Q else XX d 217 219 [v0, v1, v2, v3, v4, v5, v6, v7, v8, v9] st A Q := b_le i_217_213 rfl rfl rfl
theorem q_217_216 : XX d 217 216 [v0, v1, v2, v3, v4, v5, v6, v7, v8, v9] st A Q ↔ XX d 217 239 [v0, v1, v2, v3, v4, v5, v6, v7, v8, v9] st A Q := c_go i_217_216 rfl rfl
theorem q_217_219 : XX d 217 219 [some (.ref a), v1, v2, v3, v4, v5, v6, v7, v8, v9] st A Q ↔ XX d 217 220 [some (.ref a), v1, v2, v3, v4, v5, v6, v7, v8, v9] (.ref a :: st) A Q := c_lcl i_217_219 rfl rfl
theorem q_217_220 : XX d 217 220 [v0, v1, v2, v3, v4, v5, v6, v7, v8, v9] (.ref a :: st) (mk S I L R G) Q ↔ S a = some (.inr 12) ∧ XX d 217 223 [v0, v1, v2, v3, v4, v5, v6, v7, v8, v9] (.ref (a + 6583) :: st) (mk S I L R G) Q := r_gf i_217_220 rfl (by decide) rfl
theorem q_217_223 : XX d 217 223 [v0, v1, v2, v3, v4, v5, v6, some (.int x), v8, v9] st A Q ↔ XX d 217 225 [v0, v1, v2, v3, v4, v5, v6, some (.int x), v8, v9] (.int x :: st) A Q := c_lcl i_217_223 rfl rfl
theorem q_217_225 : XX d 217 225 [v0, v1, v2, v3, v4, v5, v6, v7, v8, v9] (.int x :: .ref a :: st) (mk S I L R G) Q ↔ inA (S a) ok_i x ∧ XX d 217 226 [v0, v1, v2, v3, v4, v5, v6, v7, v8, v9] (.int (I a (ix x)) :: st) (mk S I L R G) Q := r_ia i_217_225
theorem q_217_226 : XX d 217 226 [v0, v1, v2, v3, some (.int z), v5, v6, v7, v8, v9] (.int x :: st) A Q ↔ XX d 217 228 [v0, v1, v2, v3, some (.int z), some (.int x), v6, v7, v8, v9] st A Q := c_lcl i_217_226 rfl rfl
theorem q_217_228 : XX d 217 228 [some (.ref a), v1, v2, v3, v4, v5, v6, v7, v8, v9] st A Q ↔ XX d 217 229 [some (.ref a), v1, v2, v3, v4, v5, v6, v7, v8, v9] (.ref a :: st) A Q := c_lcl i_217_228 rfl rfl
theorem q_217_229 : XX d 217 229 [v0, v1, v2, v3, v4, v5, v6, v7, v8, v9] (.ref a :: st) (mk S I L R G) Q ↔ S a = some (.inr 12) ∧ XX d 217 232 [v0, v1, v2, v3, v4, v5, v6, v7, v8, v9] (.ref (a + 6583) :: st) (mk S I L R G) Q := r_gf i_217_229 rfl (by decide) rfl
theorem q_217_232 : XX d 217 232 [v0, v1, v2, v3, v4, v5, v6, some (.int x), v8, v9] st A Q ↔ XX d 217 234 [v0, v1, v2, v3, v4, v5, v6, some (.int x), v8, v9] (.int x :: st) A Q := c_lcl i_217_232 rfl rfl
theorem q_217_234 : XX d 217 234 [v0, v1, v2, v3, v4, v5, v6, v7, v8, v9] st A Q ↔ XX d 217 235 [v0, v1, v2, v3, v4, v5, v6, v7, v8, v9] (.int (w 1) :: st) A Q := c_stk i_217_234 rfl
theorem q_217_235 : XX d 217 235 [v0, v1, v2, v3, v4, v5, v6, v7, v8, v9] (.int y :: .int x :: st) A Q ↔ XX d 217 236 [v0, v1, v2, v3, v4, v5, v6, v7, v8, v9] (.int (x + y) :: st) A Q := c_stk i_217_235 rfl
theorem q_217_236 : XX d 217 236 [v0, v1, v2, v3, v4, v5, v6, v7, v8, v9] (.int x :: .ref a :: st) (mk S I L R G) Q ↔ inA (S a) ok_i x ∧ XX d 217 237 [v0, v1, v2, v3, v4, v5, v6, v7, v8, v9] (.int (I a (ix x)) :: st) (mk S I L R G) Q := r_ia i_217_236
theorem q_217_237 : XX d 217 237 [v0, v1, v2, v3, v4, some (.int z), v6, v7, v8, v9] (.int x :: st) A Q ↔ XX d 217 239 [v0, v1, v2, v3, v4, some (.int z), some (.int x), v7, v8, v9] st A Q := c_lcl i_217_237 rfl rfl
theorem q_217_239 : XX d 217 239 [v0, v1, v2, v3, v4, v5, some (.int z), some (.int x), v8, v9] st A Q ↔ XX d 217 242 [v0, v1, v2, v3, v4, v5, some (.int z), some (.int (x + w 1)), v8, v9] st A Q := c_lcl i_217_239 rfl rfl
theorem q_217_242 : XX d 217 242 [v0, v1, v2, v3, v4, v5, v6, v7, v8, v9] st A Q ↔ XX d 217 70 [v0, v1, v2, v3, v4, v5, v6, v7, v8, v9] st A Q := c_go i_217_242 rfl rfl
theorem q_217_245 : XX d 217 245 [v0, v1, some (.int x), v3, v4, v5, v6, v7, v8, v9] st A Q ↔ XX d 217 246 [v0, v1, some (.int x), v3, v4, v5, v6, v7, v8, v9] (.int x :: st) A Q := c_lcl i_217_245 rfl rfl
theorem q_217_246 : XX d 217 246 [v0, v1, v2, v3, v4, v5, v6, v7, v8, v9] (.int x :: st) A Q ↔ if x = w 0 then XX d 217 249 [v0, v1, v2, v3, v4, v5, v6, v7, v8, v9] st A Q else XX d 217 253 [v0, v1, v2, v3, v4, v5, v6, v7, v8, v9] st A Q := z_ne i_217_246 rfl rfl rfl
theorem q_217_249 : XX d 217 249 [v0, v1, v2, some (.int x), v4, v5, v6, v7, v8, v9] st A Q ↔ XX d 217 250 [v0, v1, v2, some (.int x), v4, v5, v6, v7, v8, v9] (.int x :: st) A Q := c_lcl i_217_249 rfl rfl
theorem q_217_250 : XX d 217 250 [v0, v1, v2, v3, v4, v5, v6, v7, v8, v9] st A Q ↔ XX d 217 275 [v0, v1, v2, v3, v4, v5, v6, v7, v8, v9] st A Q := c_go i_217_250 rfl rfl
theorem q_217_253 : XX d 217 253 [v0, v1, some (.int x), v3, v4, v5, v6, v7, v8, v9] st A Q ↔ XX d 217 254 [v0, v1, some (.int x), v3, v4, v5, v6, v7, v8, v9] (.int x :: st) A Q := c_lcl i_217_253 rfl rfl
theorem q_217_254 : XX d 217 254 [v0, v1, v2, v3, v4, v5, v6, v7, v8, v9] st A Q ↔ XX d 217 255 [v0, v1, v2, v3, v4, v5, v6, v7, v8, v9] (.int (w 1) :: st) A Q := c_stk i_217_254 rfl
theorem q_217_255 : XX d 217 255 [v0, v1, v2, v3, v4, v5, v6, v7, v8, v9] (.int y :: .int x :: st) A Q ↔ if x = y then XX d 217 258 [v0, v1, v2, v3, v4, v5, v6, v7, v8, v9] st A Q else XX d 217 263 [v0, v1, v2, v3, v4, v5, v6, v7, v8, v9] st A Q := b_ne i_217_255 rfl rfl rfl
theorem q_217_258 : XX d 217 258 [v0, v1, v2, v3, v4, some (.int x), v6, v7, v8, v9] st A Q ↔ XX d 217 260 [v0, v1, v2, v3, v4, some (.int x), v6, v7, v8, v9] (.int x :: st) A Q := c_lcl i_217_258 rfl rfl
theorem q_217_260 : XX d 217 260 [v0, v1, v2, v3, v4, v5, v6, v7, v8, v9] st A Q ↔ XX d 217 275 [v0, v1, v2, v3, v4, v5, v6, v7, v8, v9] st A Q := c_go i_217_260 rfl rfl
theorem q_217_263 : XX d 217 263 [v0, v1, some (.int x), v3, v4, v5, v6, v7, v8, v9] st A Q ↔ XX d 217 264 [v0, v1, some (.int x), v3, v4, v5, v6, v7, v8, v9] (.int x :: st) A Q := c_lcl i_217_263 rfl rfl
theorem q_217_264 : XX d 217 264 [v0, v1, v2, v3, v4, v5, v6, v7, v8, v9] st A Q ↔ XX d 217 265 [v0, v1, v2, v3, v4, v5, v6, v7, v8, v9] (.int (w 2) :: st) A Q := c_stk i_217_264 rfl
theorem q_217_265 : XX d 217 265 [v0, v1, v2, v3, v4, v5, v6, v7, v8, v9] (.int y :: .int x :: st) A Q ↔ if x = y then XX d 217 268 [v0, v1, v2, v3, v4, v5, v6, v7, v8, v9] st A Q else XX d 217 273 [v0, v1, v2, v3, v4, v5, v6, v7, v8, v9] st A Q := b_ne i_217_265 rfl rfl rfl
theorem q_217_268 : XX d 217 268 [v0, v1, v2, v3, v4, v5, some (.int x), v7, v8, v9] st A Q ↔ XX d 217 270 [v0, v1, v2, v3, v4, v5, some (.int x), v7, v8, v9] (.int x :: st) A Q := c_lcl i_217_268 rfl rfl
theorem q_217_270 : XX d 217 270 [v0, v1, v2, v3, v4, v5, v6, v7, v8, v9] st A Q ↔ XX d 217 275 [v0, v1, v2, v3, v4, v5, v6, v7, v8, v9] st A Q := c_go i_217_270 rfl rfl
theorem q_217_273 : XX d 217 273 [v0, v1, v2, v3, some (.int x), v5, v6, v7, v8, v9] st A Q ↔ XX d 217 275 [v0, v1, v2, v3, some (.int x), v5, v6, v7, v8, v9] (.int x :: st) A Q := c_lcl i_217_273 rfl rfl
theorem q_217_275 : XX d 217 275 [v0, v1, v2, v3, v4, v5, v6, v7, v8, v9] [.int x] A Q ↔ Q (.inl (some (.int x))) A := e_retI i_217_275 rfl
theorem q_217_e : XC d 217 [.ref a0, .int x1, .int x2] A Q ↔ XX d 217 0 [some (.ref a0), some (.int x1), some (.int x2), none, none, none, none, none, none, none] [] A Q := Iff.rfl
theorem i_218_0 : t_ins 218 0 = some (.aload_n 0) := by decide +kernel
theorem i_218_1 : t_ins 218 1 = some (.getfield 61) := by decide +kernel
theorem i_218_4 : t_ins 218 4 = some (.iload_n 1) := by decide +kernel
theorem i_218_5 : t_ins 218 5 = some (.iaload) := by decide +kernel
theorem i_218_6 : t_ins 218 6 = some (.iload 4) := by decide +kernel
theorem i_218_8 : t_ins 218 8 = some (.if_icmp .eq 5) := by decide +kernel
theorem i_218_11 : t_ins 218 11 = some (.iconst 0) := by decide +kernel
theorem i_218_12 : t_ins 218 12 = some (.ireturn) := by decide +kernel
theorem i_218_13 : t_ins 218 13 = some (.iconst 0) := by decide +kernel
theorem i_218_14 : t_ins 218 14 = some (.istore 5) := by decide +kernel
theorem i_218_16 : t_ins 218 16 = some (.iload 5) := by decide +kernel
theorem i_218_18 : t_ins 218 18 = some (.iload 4) := by decide +kernel
theorem i_218_20 : t_ins 218 20 = some (.if_icmp .ge 34) := by decide +kernel
theorem i_218_23 : t_ins 218 23 = some (.aload_n 0) := by decide +kernel
theorem i_218_24 : t_ins 218 24 = some (.getfield 55) := by decide +kernel
theorem i_218_27 : t_ins 218 27 = some (.aload_n 0) := by decide +kernel
theorem i_218_28 : t_ins 218 28 = some (.getfield 58) := by decide +kernel
theorem i_218_31 : t_ins 218 31 = some (.iload_n 1) := by decide +kernel
theorem i_218_32 : t_ins 218 32 = some (.iaload) := by decide +kernel
theorem i_218_33 : t_ins 218 33 = some (.iload 5) := by decide +kernel
theorem i_218_35 : t_ins 218 35 = some (.iadd) := by decide +kernel
theorem i_218_36 : t_ins 218 36 = some (.baload) := by decide +kernel
theorem i_218_37 : t_ins 218 37 = some (.aload_n 2) := by decide +kernel
theorem i_218_38 : t_ins 218 38 = some (.iload_n 3) := by decide +kernel
theorem i_218_39 : t_ins 218 39 = some (.iload 5) := by decide +kernel
theorem i_218_41 : t_ins 218 41 = some (.iadd) := by decide +kernel
theorem i_218_42 : t_ins 218 42 = some (.baload) := by decide +kernel
theorem i_218_43 : t_ins 218 43 = some (.if_icmp .eq 5) := by decide +kernel
theorem i_218_46 : t_ins 218 46 = some (.iconst 0) := by decide +kernel
theorem i_218_47 : t_ins 218 47 = some (.ireturn) := by decide +kernel
theorem i_218_48 : t_ins 218 48 = some (.iinc 5 1) := by decide +kernel
theorem i_218_51 : t_ins 218 51 = some (.goto (-35)) := by decide +kernel
theorem i_218_54 : t_ins 218 54 = some (.iconst 1) := by decide +kernel
theorem i_218_55 : t_ins 218 55 = some (.ireturn) := by decide +kernel
theorem q_218_0 : XX d 218 0 [some (.ref a), v1, v2, v3, v4, v5] st A Q ↔ XX d 218 1 [some (.ref a), v1, v2, v3, v4, v5] (.ref a :: st) A Q := c_lcl i_218_0 rfl rfl
theorem q_218_1 : XX d 218 1 [v0, v1, v2, v3, v4, v5] (.ref a :: st) (mk S I L R G) Q ↔ S a = some (.inr 12) ∧ XX d 218 4 [v0, v1, v2, v3, v4, v5] (.ref (a + 6579) :: st) (mk S I L R G) Q := r_gf i_218_1 rfl (by decide) rfl
theorem q_218_4 : XX d 218 4 [v0, some (.int x), v2, v3, v4, v5] st A Q ↔ XX d 218 5 [v0, some (.int x), v2, v3, v4, v5] (.int x :: st) A Q := c_lcl i_218_4 rfl rfl
theorem q_218_5 : XX d 218 5 [v0, v1, v2, v3, v4, v5] (.int x :: .ref a :: st) (mk S I L R G) Q ↔ inA (S a) ok_i x ∧ XX d 218 6 [v0, v1, v2, v3, v4, v5] (.int (I a (ix x)) :: st) (mk S I L R G) Q := r_ia i_218_5
theorem q_218_6 : XX d 218 6 [v0, v1, v2, v3, some (.int x), v5] st A Q ↔ XX d 218 8 [v0, v1, v2, v3, some (.int x), v5] (.int x :: st) A Q := c_lcl i_218_6 rfl rfl
theorem q_218_8 : XX d 218 8 [v0, v1, v2, v3, v4, v5] (.int y :: .int x :: st) A Q ↔ if x = y then XX d 218 13 [v0, v1, v2, v3, v4, v5] st A Q else XX d 218 11 [v0, v1, v2, v3, v4, v5] st A Q := b_eq i_218_8 rfl rfl rfl
theorem q_218_11 : XX d 218 11 [v0, v1, v2, v3, v4, v5] st A Q ↔ XX d 218 12 [v0, v1, v2, v3, v4, v5] (.int (w 0) :: st) A Q := c_stk i_218_11 rfl
theorem q_218_12 : XX d 218 12 [v0, v1, v2, v3, v4, v5] [.int x] A Q ↔ (x = w 0 ∨ x = w 1) ∧ Q (.inl (some (.int x))) A := e_retZ i_218_12 rfl
theorem q_218_13 : XX d 218 13 [v0, v1, v2, v3, v4, v5] st A Q ↔ XX d 218 14 [v0, v1, v2, v3, v4, v5] (.int (w 0) :: st) A Q := c_stk i_218_13 rfl
theorem q_218_14 : XX d 218 14 [v0, v1, v2, v3, some (.int z), v5] (.int x :: st) A Q ↔ XX d 218 16 [v0, v1, v2, v3, some (.int z), some (.int x)] st A Q := c_lcl i_218_14 rfl rfl
theorem q_218_16 : XX d 218 16 [v0, v1, v2, v3, v4, some (.int x)] st A Q ↔ XX d 218 18 [v0, v1, v2, v3, v4, some (.int x)] (.int x :: st) A Q := c_lcl i_218_16 rfl rfl
theorem q_218_18 : XX d 218 18 [v0, v1, v2, v3, some (.int x), v5] st A Q ↔ XX d 218 20 [v0, v1, v2, v3, some (.int x), v5] (.int x :: st) A Q := c_lcl i_218_18 rfl rfl
theorem q_218_20 : XX d 218 20 [v0, v1, v2, v3, v4, v5] (.int y :: .int x :: st) A Q ↔ if x < y then XX d 218 23 [v0, v1, v2, v3, v4, v5] st A Q else XX d 218 54 [v0, v1, v2, v3, v4, v5] st A Q := b_ge i_218_20 rfl rfl rfl
theorem q_218_23 : XX d 218 23 [some (.ref a), v1, v2, v3, v4, v5] st A Q ↔ XX d 218 24 [some (.ref a), v1, v2, v3, v4, v5] (.ref a :: st) A Q := c_lcl i_218_23 rfl rfl
theorem q_218_24 : XX d 218 24 [v0, v1, v2, v3, v4, v5] (.ref a :: st) (mk S I L R G) Q ↔ S a = some (.inr 12) ∧ XX d 218 27 [v0, v1, v2, v3, v4, v5] (.ref (a + 6577) :: st) (mk S I L R G) Q := r_gf i_218_24 rfl (by decide) rfl
theorem q_218_27 : XX d 218 27 [some (.ref a), v1, v2, v3, v4, v5] st A Q ↔ XX d 218 28 [some (.ref a), v1, v2, v3, v4, v5] (.ref a :: st) A Q := c_lcl i_218_27 rfl rfl
theorem q_218_28 : XX d 218 28 [v0, v1, v2, v3, v4, v5] (.ref a :: st) (mk S I L R G) Q ↔ S a = some (.inr 12) ∧ XX d 218 31 [v0, v1, v2, v3, v4, v5] (.ref (a + 6578) :: st) (mk S I L R G) Q := r_gf i_218_28 rfl (by decide) rfl
theorem q_218_31 : XX d 218 31 [v0, some (.int x), v2, v3, v4, v5] st A Q ↔ XX d 218 32 [v0, some (.int x), v2, v3, v4, v5] (.int x :: st) A Q := c_lcl i_218_31 rfl rfl
theorem q_218_32 : XX d 218 32 [v0, v1, v2, v3, v4, v5] (.int x :: .ref a :: st) (mk S I L R G) Q ↔ inA (S a) ok_i x ∧ XX d 218 33 [v0, v1, v2, v3, v4, v5] (.int (I a (ix x)) :: st) (mk S I L R G) Q := r_ia i_218_32
theorem q_218_33 : XX d 218 33 [v0, v1, v2, v3, v4, some (.int x)] st A Q ↔ XX d 218 35 [v0, v1, v2, v3, v4, some (.int x)] (.int x :: st) A Q := c_lcl i_218_33 rfl rfl
theorem q_218_35 : XX d 218 35 [v0, v1, v2, v3, v4, v5] (.int y :: .int x :: st) A Q ↔ XX d 218 36 [v0, v1, v2, v3, v4, v5] (.int (x + y) :: st) A Q := c_stk i_218_35 rfl
theorem q_218_36 : XX d 218 36 [v0, v1, v2, v3, v4, v5] (.int x :: .ref a :: st) (mk S I L R G) Q ↔ inA (S a) ok_b x ∧ XX d 218 37 [v0, v1, v2, v3, v4, v5] (.int (I a (ix x)) :: st) (mk S I L R G) Q := r_ba i_218_36
theorem q_218_37 : XX d 218 37 [v0, v1, some (.ref a), v3, v4, v5] st A Q ↔ XX d 218 38 [v0, v1, some (.ref a), v3, v4, v5] (.ref a :: st) A Q := c_lcl i_218_37 rfl rfl
theorem q_218_38 : XX d 218 38 [v0, v1, v2, some (.int x), v4, v5] st A Q ↔ XX d 218 39 [v0, v1, v2, some (.int x), v4, v5] (.int x :: st) A Q := c_lcl i_218_38 rfl rfl
theorem q_218_39 : XX d 218 39 [v0, v1, v2, v3, v4, some (.int x)] st A Q ↔ XX d 218 41 [v0, v1, v2, v3, v4, some (.int x)] (.int x :: st) A Q := c_lcl i_218_39 rfl rfl
theorem q_218_41 : XX d 218 41 [v0, v1, v2, v3, v4, v5] (.int y :: .int x :: st) A Q ↔ XX d 218 42 [v0, v1, v2, v3, v4, v5] (.int (x + y) :: st) A Q := c_stk i_218_41 rfl
theorem q_218_42 : XX d 218 42 [v0, v1, v2, v3, v4, v5] (.int x :: .ref a :: st) (mk S I L R G) Q ↔ inA (S a) ok_b x ∧ XX d 218 43 [v0, v1, v2, v3, v4, v5] (.int (I a (ix x)) :: st) (mk S I L R G) Q := r_ba i_218_42
theorem q_218_43 : XX d 218 43 [v0, v1, v2, v3, v4, v5] (.int y :: .int x :: st) A Q ↔ if x = y then XX d 218 48 [v0, v1, v2, v3, v4, v5] st A Q else XX d 218 46 [v0, v1, v2, v3, v4, v5] st A Q := b_eq i_218_43 rfl rfl rfl
theorem q_218_46 : XX d 218 46 [v0, v1, v2, v3, v4, v5] st A Q ↔ XX d 218 47 [v0, v1, v2, v3, v4, v5] (.int (w 0) :: st) A Q := c_stk i_218_46 rfl
theorem q_218_47 : XX d 218 47 [v0, v1, v2, v3, v4, v5] [.int x] A Q ↔ (x = w 0 ∨ x = w 1) ∧ Q (.inl (some (.int x))) A := e_retZ i_218_47 rfl
theorem q_218_48 : XX d 218 48 [v0, v1, v2, v3, some (.int z), some (.int x)] st A Q ↔ XX d 218 51 [v0, v1, v2, v3, some (.int z), some (.int (x + w 1))] st A Q := c_lcl i_218_48 rfl rfl
theorem q_218_51 : XX d 218 51 [v0, v1, v2, v3, v4, v5] st A Q ↔ XX d 218 16 [v0, v1, v2, v3, v4, v5] st A Q := c_go i_218_51 rfl rfl
theorem q_218_54 : XX d 218 54 [v0, v1, v2, v3, v4, v5] st A Q ↔ XX d 218 55 [v0, v1, v2, v3, v4, v5] (.int (w 1) :: st) A Q := c_stk i_218_54 rfl
theorem q_218_55 : XX d 218 55 [v0, v1, v2, v3, v4, v5] [.int x] A Q ↔ (x = w 0 ∨ x = w 1) ∧ Q (.inl (some (.int x))) A := e_retZ i_218_55 rfl
theorem q_218_e : XC d 218 [.ref a0, .int x1, .ref a2, .int x3, .int x4] A Q ↔ XX d 218 0 [some (.ref a0), some (.int x1), some (.ref a2), some (.int x3), some (.int x4), none] [] A Q := Iff.rfl
theorem i_219_0 : t_ins 219 0 = some (.aload_n 0) := by decide +kernel
theorem i_219_1 : t_ins 219 1 = some (.iconst 0) := by decide +kernel
theorem i_219_2 : t_ins 219 2 = some (.putfield 339) := by decide +kernel
theorem i_219_5 : t_ins 219 5 = some (.aload_n 0) := by decide +kernel
theorem i_219_6 : t_ins 219 6 = some (.iconst (-1)) := by decide +kernel
theorem i_219_7 : t_ins 219 7 = some (.putfield 342) := by decide +kernel
theorem i_219_10 : t_ins 219 10 = some (.aload_n 0) := by decide +kernel
theorem i_219_11 : t_ins 219 11 = some (.iconst (-1)) := by decide +kernel
theorem i_219_12 : t_ins 219 12 = some (.putfield 345) := by decide +kernel
theorem i_219_15 : t_ins 219 15 = some (.iconst 0) := by decide +kernel
theorem i_219_16 : t_ins 219 16 = some (.istore 4) := by decide +kernel
theorem i_219_18 : t_ins 219 18 = some (.iload 4) := by decide +kernel
theorem i_219_20 : t_ins 219 20 = some (.aload_n 0) := by decide +kernel
theorem i_219_21 : t_ins 219 21 = some (.getfield 36) := by decide +kernel
theorem i_219_24 : t_ins 219 24 = some (.if_icmp .gt 60) := by decide +kernel
theorem i_219_27 : t_ins 219 27 = some (.aload_n 0) := by decide +kernel
theorem i_219_28 : t_ins 219 28 = some (.iload 4) := by decide +kernel
theorem i_219_30 : t_ins 219 30 = some (.aload_n 1) := by decide +kernel
theorem i_219_31 : t_ins 219 31 = some (.iload_n 2) := by decide +kernel
theorem i_219_32 : t_ins 219 32 = some (.iload_n 3) := by decide +kernel
theorem i_219_33 : t_ins 219 33 = some (.invokevirtual 348) := by decide +kernel
theorem i_219_36 : t_ins 219 36 = some (.ifCond .ne 6) := by decide +kernel
theorem i_219_39 : t_ins 219 39 = some (.goto 39) := by decide +kernel
theorem i_219_42 : t_ins 219 42 = some (.aload_n 0) := by decide +kernel
theorem i_219_43 : t_ins 219 43 = some (.aload_n 0) := by decide +kernel
theorem i_219_44 : t_ins 219 44 = some (.getfield 339) := by decide +kernel
theorem i_219_47 : t_ins 219 47 = some (.ifCond .ne 8) := by decide +kernel
theorem i_219_50 : t_ins 219 50 = some (.iload 4) := by decide +kernel
theorem i_219_52 : t_ins 219 52 = some (.goto 7) := by decide +kernel
theorem i_219_55 : t_ins 219 55 = some (.aload_n 0) := by decide +kernel
theorem i_219_56 : t_ins 219 56 = some (.getfield 342) := by decide +kernel
theorem i_219_59 : t_ins 219 59 = some (.putfield 342) := by decide +kernel
theorem i_219_62 : t_ins 219 62 = some (.aload_n 0) := by decide +kernel
theorem i_219_63 : t_ins 219 63 = some (.iload 4) := by decide +kernel
theorem i_219_65 : t_ins 219 65 = some (.putfield 345) := by decide +kernel
theorem i_219_68 : t_ins 219 68 = some (.aload_n 0) := by decide +kernel
theorem i_219_69 : t_ins 219 69 = some (.dup) := by decide +kernel
theorem i_219_70 : t_ins 219 70 = some (.getfield 339) := by decide +kernel
theorem i_219_73 : t_ins 219 73 = some (.iconst 1) := by decide +kernel
theorem i_219_74 : t_ins 219 74 = some (.iadd) := by decide +kernel
theorem i_219_75 : t_ins 219 75 = some (.putfield 339) := by decide +kernel
theorem i_219_78 : t_ins 219 78 = some (.iinc 4 1) := by decide +kernel
theorem i_219_81 : t_ins 219 81 = some (.goto (-63)) := by decide +kernel
theorem i_219_84 : t_ins 219 84 = some (.return_) := by decide +kernel
theorem q_219_0 : XX d 219 0 [some (.ref a), v1, v2, v3, v4] st A Q ↔ XX d 219 1 [some (.ref a), v1, v2, v3, v4] (.ref a :: st) A Q := c_lcl i_219_0 rfl rfl
theorem q_219_1 : XX d 219 1 [v0, v1, v2, v3, v4] st A Q ↔ XX d 219 2 [v0, v1, v2, v3, v4] (.int (w 0) :: st) A Q := c_stk i_219_1 rfl
theorem q_219_2 : XX d 219 2 [v0, v1, v2, v3, v4] (.int x :: .ref a :: st) (mk S I L R G) Q ↔ S a = some (.inr 12) ∧ XX d 219 5 [v0, v1, v2, v3, v4] st (mk S (wr I a (up (I a) 33 x)) L R G) Q := r_pf i_219_2 rfl (by decide) rfl rfl rfl
theorem q_219_5 : XX d 219 5 [some (.ref a), v1, v2, v3, v4] st A Q ↔ XX d 219 6 [some (.ref a), v1, v2, v3, v4] (.ref a :: st) A Q := c_lcl i_219_5 rfl rfl
theorem q_219_6 : XX d 219 6 [v0, v1, v2, v3, v4] st A Q ↔ XX d 219 7 [v0, v1, v2, v3, v4] (.int (w (-1)) :: st) A Q := c_stk i_219_6 rfl
theorem q_219_7 : XX d 219 7 [v0, v1, v2, v3, v4] (.int x :: .ref a :: st) (mk S I L R G) Q ↔ S a = some (.inr 12) ∧ XX d 219 10 [v0, v1, v2, v3, v4] st (mk S (wr I a (up (I a) 34 x)) L R G) Q := r_pf i_219_7 rfl (by decide) rfl rfl rfl
theorem q_219_10 : XX d 219 10 [some (.ref a), v1, v2, v3, v4] st A Q ↔ XX d 219 11 [some (.ref a), v1, v2, v3, v4] (.ref a :: st) A Q := c_lcl i_219_10 rfl rfl
theorem q_219_11 : XX d 219 11 [v0, v1, v2, v3, v4] st A Q ↔ XX d 219 12 [v0, v1, v2, v3, v4] (.int (w (-1)) :: st) A Q := c_stk i_219_11 rfl
theorem q_219_12 : XX d 219 12 [v0, v1, v2, v3, v4] (.int x :: .ref a :: st) (mk S I L R G) Q ↔ S a = some (.inr 12) ∧ XX d 219 15 [v0, v1, v2, v3, v4] st (mk S (wr I a (up (I a) 35 x)) L R G) Q := r_pf i_219_12 rfl (by decide) rfl rfl rfl
theorem q_219_15 : XX d 219 15 [v0, v1, v2, v3, v4] st A Q ↔ XX d 219 16 [v0, v1, v2, v3, v4] (.int (w 0) :: st) A Q := c_stk i_219_15 rfl
theorem q_219_16 : XX d 219 16 [v0, v1, v2, some (.int z), v4] (.int x :: st) A Q ↔ XX d 219 18 [v0, v1, v2, some (.int z), some (.int x)] st A Q := c_lcl i_219_16 rfl rfl
theorem q_219_18 : XX d 219 18 [v0, v1, v2, v3, some (.int x)] st A Q ↔ XX d 219 20 [v0, v1, v2, v3, some (.int x)] (.int x :: st) A Q := c_lcl i_219_18 rfl rfl
theorem q_219_20 : XX d 219 20 [some (.ref a), v1, v2, v3, v4] st A Q ↔ XX d 219 21 [some (.ref a), v1, v2, v3, v4] (.ref a :: st) A Q := c_lcl i_219_20 rfl rfl
theorem q_219_21 : XX d 219 21 [v0, v1, v2, v3, v4] (.ref a :: st) (mk S I L R G) Q ↔ S a = some (.inr 12) ∧ XX d 219 24 [v0, v1, v2, v3, v4] (.int (I a 13) :: st) (mk S I L R G) Q := r_gf i_219_21 rfl (by decide) rfl
theorem q_219_24 : XX d 219 24 [v0, v1, v2, v3, v4] (.int y :: .int x :: st) A Q ↔ if y < x then XX d 219 84 [v0, v1, v2, v3, v4] st A Q else XX d 219 27 [v0, v1, v2, v3, v4] st A Q := b_gt i_219_24 rfl rfl rfl
theorem q_219_27 : XX d 219 27 [some (.ref a), v1, v2, v3, v4] st A Q ↔ XX d 219 28 [some (.ref a), v1, v2, v3, v4] (.ref a :: st) A Q := c_lcl i_219_27 rfl rfl
theorem q_219_28 : XX d 219 28 [v0, v1, v2, v3, some (.int x)] st A Q ↔ XX d 219 30 [v0, v1, v2, v3, some (.int x)] (.int x :: st) A Q := c_lcl i_219_28 rfl rfl
theorem q_219_30 : XX d 219 30 [v0, some (.ref a), v2, v3, v4] st A Q ↔ XX d 219 31 [v0, some (.ref a), v2, v3, v4] (.ref a :: st) A Q := c_lcl i_219_30 rfl rfl
theorem q_219_31 : XX d 219 31 [v0, v1, some (.int x), v3, v4] st A Q ↔ XX d 219 32 [v0, v1, some (.int x), v3, v4] (.int x :: st) A Q := c_lcl i_219_31 rfl rfl
theorem q_219_32 : XX d 219 32 [v0, v1, v2, some (.int x), v4] st A Q ↔ XX d 219 33 [v0, v1, v2, some (.int x), v4] (.int x :: st) A Q := c_lcl i_219_32 rfl rfl
theorem q_219_33 : XX (d + 1) 219 33 [v0, v1, v2, v3, v4] [.int x4, .int x3, .ref a2, .int x1, .ref a0] (mk S I L R G) Q ↔ S a0 = some (.inr 12) ∧ XC d 218 [.ref a0, .int x1, .ref a2, .int x3, .int x4] (mk S I L R G) (XK (d + 1) 219 33 [v0, v1, v2, v3, v4] [] Q) := c_callV i_219_33 rfl rfl rfl rfl (Nat.le_of_ble_eq_true rfl) (Nat.le_of_ble_eq_true rfl) rfl
theorem q_219_36 : XX d 219 36 [v0, v1, v2, v3, v4] (.int x :: st) A Q ↔ if x = w 0 then XX d 219 39 [v0, v1, v2, v3, v4] st A Q else XX d 219 42 [v0, v1, v2, v3, v4] st A Q := z_ne i_219_36 rfl rfl rfl
theorem q_219_39 : XX d 219 39 [v0, v1, v2, v3, v4] st A Q ↔ XX d 219 78 [v0, v1, v2, v3, v4] st A Q := c_go i_219_39 rfl rfl
theorem q_219_42 : XX d 219 42 [some (.ref a), v1, v2, v3, v4] st A Q ↔ XX d 219 43 [some (.ref a), v1, v2, v3, v4] (.ref a :: st) A Q := c_lcl i_219_42 rfl rfl
theorem q_219_43 : XX d 219 43 [some (.ref a), v1, v2, v3, v4] st A Q ↔ XX d 219 44 [some (.ref a), v1, v2, v3, v4] (.ref a :: st) A Q := c_lcl i_219_43 rfl rfl
theorem q_219_44 : XX d 219 44 [v0, v1, v2, v3, v4] (.ref a :: st) (mk S I L R G) Q ↔ S a = some (.inr 12) ∧ XX d 219 47 [v0, v1, v2, v3, v4] (.int (I a 33) :: st) (mk S I L R G) Q := r_gf i_219_44 rfl (by decide) rfl
theorem q_219_47 : XX d 219 47 [v0, v1, v2, v3, v4] (.int x :: st) A Q ↔ if x = w 0 then XX d 219 50 [v0, v1, v2, v3, v4] st A Q else XX d 219 55 [v0, v1, v2, v3, v4] st A Q := z_ne i_219_47 rfl rfl rfl
theorem q_219_50 : XX d 219 50 [v0, v1, v2, v3, some (.int x)] st A Q ↔ XX d 219 52 [v0, v1, v2, v3, some (.int x)] (.int x :: st) A Q := c_lcl i_219_50 rfl rfl
theorem q_219_52 : XX d 219 52 [v0, v1, v2, v3, v4] st A Q ↔ XX d 219 59 [v0, v1, v2, v3, v4] st A Q := c_go i_219_52 rfl rfl
theorem q_219_55 : XX d 219 55 [some (.ref a), v1, v2, v3, v4] st A Q ↔ XX d 219 56 [some (.ref a), v1, v2, v3, v4] (.ref a :: st) A Q := c_lcl i_219_55 rfl rfl
theorem q_219_56 : XX d 219 56 [v0, v1, v2, v3, v4] (.ref a :: st) (mk S I L R G) Q ↔ S a = some (.inr 12) ∧ XX d 219 59 [v0, v1, v2, v3, v4] (.int (I a 34) :: st) (mk S I L R G) Q := r_gf i_219_56 rfl (by decide) rfl
theorem q_219_59 : XX d 219 59 [v0, v1, v2, v3, v4] (.int x :: .ref a :: st) (mk S I L R G) Q ↔ S a = some (.inr 12) ∧ XX d 219 62 [v0, v1, v2, v3, v4] st (mk S (wr I a (up (I a) 34 x)) L R G) Q := r_pf i_219_59 rfl (by decide) rfl rfl rfl
theorem q_219_62 : XX d 219 62 [some (.ref a), v1, v2, v3, v4] st A Q ↔ XX d 219 63 [some (.ref a), v1, v2, v3, v4] (.ref a :: st) A Q := c_lcl i_219_62 rfl rfl
theorem q_219_63 : XX d 219 63 [v0, v1, v2, v3, some (.int x)] st A Q ↔ XX d 219 65 [v0, v1, v2, v3, some (.int x)] (.int x :: st) A Q := c_lcl i_219_63 rfl rfl
theorem q_219_65 : XX d 219 65 [v0, v1, v2, v3, v4] (.int x :: .ref a :: st) (mk S I L R G) Q ↔ S a = some (.inr 12) ∧ XX d 219 68 [v0, v1, v2, v3, v4] st (mk S (wr I a (up (I a) 35 x)) L R G) Q := r_pf i_219_65 rfl (by decide) rfl rfl rfl
theorem q_219_68 : XX d 219 68 [some (.ref a), v1, v2, v3, v4] st A Q ↔ XX d 219 69 [some (.ref a), v1, v2, v3, v4] (.ref a :: st) A Q := c_lcl i_219_68 rfl rfl
theorem q_219_69 : XX d 219 69 [v0, v1, v2, v3, v4] (.ref a1 :: st) A Q ↔ XX d 219 70 [v0, v1, v2, v3, v4] (.ref a1 :: .ref a1 :: st) A Q := c_stk i_219_69 rfl
theorem q_219_70 : XX d 219 70 [v0, v1, v2, v3, v4] (.ref a :: st) (mk S I L R G) Q ↔ S a = some (.inr 12) ∧ XX d 219 73 [v0, v1, v2, v3, v4] (.int (I a 33) :: st) (mk S I L R G) Q := r_gf i_219_70 rfl (by decide) rfl
theorem q_219_73 : XX d 219 73 [v0, v1, v2, v3, v4] st A Q ↔ XX d 219 74 [v0, v1, v2, v3, v4] (.int (w 1) :: st) A Q := c_stk i_219_73 rfl
theorem q_219_74 : XX d 219 74 [v0, v1, v2, v3, v4] (.int y :: .int x :: st) A Q ↔ XX d 219 75 [v0, v1, v2, v3, v4] (.int (x + y) :: st) A Q := c_stk i_219_74 rfl
theorem q_219_75 : XX d 219 75 [v0, v1, v2, v3, v4] (.int x :: .ref a :: st) (mk S I L R G) Q ↔ S a = some (.inr 12) ∧ XX d 219 78 [v0, v1, v2, v3, v4] st (mk S (wr I a (up (I a) 33 x)) L R G) Q := r_pf i_219_75 rfl (by decide) rfl rfl rfl
theorem q_219_78 : XX d 219 78 [v0, v1, v2, some (.int z), some (.int x)] st A Q ↔ XX d 219 81 [v0, v1, v2, some (.int z), some (.int (x + w 1))] st A Q := c_lcl i_219_78 rfl rfl
theorem q_219_81 : XX d 219 81 [v0, v1, v2, v3, v4] st A Q ↔ XX d 219 18 [v0, v1, v2, v3, v4] st A Q := c_go i_219_81 rfl rfl
theorem q_219_84 : XX d 219 84 [v0, v1, v2, v3, v4] [] A Q ↔ Q (.inl none) A := e_retN i_219_84 rfl
theorem q_219_e : XC d 219 [.ref a0, .ref a1, .int x2, .int x3] A Q ↔ XX d 219 0 [some (.ref a0), some (.ref a1), some (.int x2), some (.int x3), none] [] A Q := Iff.rfl
theorem i_220_0 : t_ins 220 0 = some (.aload_n 0) := by decide +kernel
theorem i_220_1 : t_ins 220 1 = some (.iconst 0) := by decide +kernel
theorem i_220_2 : t_ins 220 2 = some (.putfield 121) := by decide +kernel
theorem i_220_5 : t_ins 220 5 = some (.aload_n 0) := by decide +kernel
theorem i_220_6 : t_ins 220 6 = some (.iload_n 1) := by decide +kernel
theorem i_220_7 : t_ins 220 7 = some (.invokestatic 245) := by decide +kernel
theorem i_220_10 : t_ins 220 10 = some (.ifCond .ne 7) := by decide +kernel
theorem i_220_13 : t_ins 220 13 = some (.iconst 1) := by decide +kernel
theorem i_220_14 : t_ins 220 14 = some (.goto 4) := by decide +kernel
theorem i_220_17 : t_ins 220 17 = some (.iconst 0) := by decide +kernel
theorem i_220_18 : t_ins 220 18 = some (.iconst 1) := by decide +kernel
theorem i_220_19 : t_ins 220 19 = some (.iconst 0) := by decide +kernel
theorem i_220_20 : t_ins 220 20 = some (.invokevirtual 234) := by decide +kernel
theorem i_220_23 : t_ins 220 23 = some (.ifCond .ne 38) := by decide +kernel
theorem i_220_26 : t_ins 220 26 = some (.aload_n 0) := by decide +kernel
theorem i_220_27 : t_ins 220 27 = some (.iload_n 2) := by decide +kernel
theorem i_220_28 : t_ins 220 28 = some (.iconst 0) := by decide +kernel
theorem i_220_29 : t_ins 220 29 = some (.aload_n 0) := by decide +kernel
theorem i_220_30 : t_ins 220 30 = some (.getfield 124) := by decide +kernel
theorem i_220_33 : t_ins 220 33 = some (.invokestatic 230) := by decide +kernel
theorem i_220_36 : t_ins 220 36 = some (.ifCond .eq 12) := by decide +kernel
theorem i_220_39 : t_ins 220 39 = some (.iload_n 3) := by decide +kernel
theorem i_220_40 : t_ins 220 40 = some (.iconst 0) := by decide +kernel
theorem i_220_41 : t_ins 220 41 = some (.iconst 2) := by decide +kernel
theorem i_220_42 : t_ins 220 42 = some (.invokestatic 230) := by decide +kernel
theorem i_220_45 : t_ins 220 45 = some (.ifCond .ne 7) := by decide +kernel
theorem i_220_48 : t_ins 220 48 = some (.iconst 1) := by decide +kernel
theorem i_220_49 : t_ins 220 49 = some (.goto 4) := by decide +kernel
theorem i_220_52 : t_ins 220 52 = some (.iconst 0) := by decide +kernel
theorem i_220_53 : t_ins 220 53 = some (.iconst 2) := by decide +kernel
theorem i_220_54 : t_ins 220 54 = some (.iconst 1) := by decide +kernel
theorem i_220_55 : t_ins 220 55 = some (.invokevirtual 234) := by decide +kernel
theorem i_220_58 : t_ins 220 58 = some (.ifCond .eq 5) := by decide +kernel
theorem i_220_61 : t_ins 220 61 = some (.iconst 0) := by decide +kernel
theorem i_220_62 : t_ins 220 62 = some (.ireturn) := by decide +kernel
theorem i_220_63 : t_ins 220 63 = some (.aload_n 0) := by decide +kernel
theorem i_220_64 : t_ins 220 64 = some (.iload_n 1) := by decide +kernel
theorem i_220_65 : t_ins 220 65 = some (.invokevirtual 301) := by decide +kernel
theorem i_220_68 : t_ins 220 68 = some (.iconst 0) := by decide +kernel
theorem i_220_69 : t_ins 220 69 = some (.istore 4) := by decide +kernel
theorem i_220_71 : t_ins 220 71 = some (.iload 4) := by decide +kernel
theorem i_220_73 : t_ins 220 73 = some (.iload_n 2) := by decide +kernel
theorem i_220_74 : t_ins 220 74 = some (.if_icmp .ge 24) := by decide +kernel
theorem i_220_77 : t_ins 220 77 = some (.aload_n 0) := by decide +kernel
theorem i_220_78 : t_ins 220 78 = some (.getfield 79) := by decide +kernel
theorem i_220_81 : t_ins 220 81 = some (.iload 4) := by decide +kernel
theorem i_220_83 : t_ins 220 83 = some (.aload_n 0) := by decide +kernel
theorem i_220_84 : t_ins 220 84 = some (.getfield 17) := by decide +kernel
theorem i_220_87 : t_ins 220 87 = some (.iload 4) := by decide +kernel
theorem i_220_89 : t_ins 220 89 = some (.iaload) := by decide +kernel
theorem i_220_90 : t_ins 220 90 = some (.i2b) := by decide +kernel
theorem i_220_91 : t_ins 220 91 = some (.bastore) := by decide +kernel
theorem i_220_92 : t_ins 220 92 = some (.iinc 4 1) := by decide +kernel
theorem i_220_95 : t_ins 220 95 = some (.goto (-24)) := by decide +kernel
theorem i_220_98 : t_ins 220 98 = some (.aload_n 0) := by decide +kernel
theorem i_220_99 : t_ins 220 99 = some (.aload_n 0) := by decide +kernel
theorem i_220_100 : t_ins 220 100 = some (.getfield 79) := by decide +kernel
theorem i_220_103 : t_ins 220 103 = some (.iconst 0) := by decide +kernel
theorem i_220_104 : t_ins 220 104 = some (.iload_n 2) := by decide +kernel
theorem i_220_105 : t_ins 220 105 = some (.invokevirtual 352) := by decide +kernel
theorem i_220_108 : t_ins 220 108 = some (.iload_n 3) := by decide +kernel
theorem i_220_109 : t_ins 220 109 = some (.ifCond .ne 10) := by decide +kernel
theorem i_220_112 : t_ins 220 112 = some (.aload_n 0) := by decide +kernel
theorem i_220_113 : t_ins 220 113 = some (.getfield 339) := by decide +kernel
theorem i_220_116 : t_ins 220 116 = some (.goto 19) := by decide +kernel
theorem i_220_119 : t_ins 220 119 = some (.iload_n 3) := by decide +kernel
theorem i_220_120 : t_ins 220 120 = some (.iconst 1) := by decide +kernel
theorem i_220_121 : t_ins 220 121 = some (.if_icmp .ne 10) := by decide +kernel
theorem i_220_124 : t_ins 220 124 = some (.aload_n 0) := by decide +kernel
theorem i_220_125 : t_ins 220 125 = some (.getfield 342) := by decide +kernel
theorem i_220_128 : t_ins 220 128 = some (.goto 7) := by decide +kernel
theorem i_220_131 : t_ins 220 131 = some (.aload_n 0) := by decide +kernel
theorem i_220_132 : t_ins 220 132 = some (.getfield 345) := by decide +kernel
theorem i_220_135 : t_ins 220 135 = some (.ireturn) := by decide +kernel
theorem q_220_0 : XX d 220 0 [some (.ref a), v1, v2, v3, v4] st A Q ↔ XX d 220 1 [some (.ref a), v1, v2, v3, v4] (.ref a :: st) A Q := c_lcl i_220_0 rfl rfl
theorem q_220_1 : XX d 220 1 [v0, v1, v2, v3, v4] st A Q ↔ XX d 220 2 [v0, v1, v2, v3, v4] (.int (w 0) :: st) A Q := c_stk i_220_1 rfl
theorem q_220_2 : XX d 220 2 [v0, v1, v2, v3, v4] (.int x :: .ref a :: st) (mk S I L R G) Q ↔ S a = some (.inr 12) ∧ XX d 220 5 [v0, v1, v2, v3, v4] st (mk S (wr I a (up (I a) 0 x)) L R G) Q := r_pf i_220_2 rfl (by decide) rfl rfl rfl
theorem q_220_5 : XX d 220 5 [some (.ref a), v1, v2, v3, v4] st A Q ↔ XX d 220 6 [some (.ref a), v1, v2, v3, v4] (.ref a :: st) A Q := c_lcl i_220_5 rfl rfl
theorem q_220_6 : XX d 220 6 [v0, some (.int x), v2, v3, v4] st A Q ↔ XX d 220 7 [v0, some (.int x), v2, v3, v4] (.int x :: st) A Q := c_lcl i_220_6 rfl rfl
theorem q_220_7 : XX (d + 1) 220 7 [v0, v1, v2, v3, v4] [.int x0, .ref a1] A Q ↔ XC d 182 [.int x0] A (XK (d + 1) 220 7 [v0, v1, v2, v3, v4] [.ref a1] Q) := c_callS i_220_7 rfl rfl rfl rfl (Nat.le_of_ble_eq_true rfl) (Nat.le_of_ble_eq_true rfl)
theorem q_220_10 : XX d 220 10 [v0, v1, v2, v3, v4] (.int x :: st) A Q ↔ if x = w 0 then XX d 220 13 [v0, v1, v2, v3, v4] st A Q else XX d 220 17 [v0, v1, v2, v3, v4] st A Q := z_ne i_220_10 rfl rfl rfl
theorem q_220_13 : XX d 220 13 [v0, v1, v2, v3, v4] st A Q ↔ XX d 220 14 [v0, v1, v2, v3, v4] (.int (w 1) :: st) A Q := c_stk i_220_13 rfl
theorem q_220_14 : XX d 220 14 [v0, v1, v2, v3, v4] st A Q ↔ XX d 220 18 [v0, v1, v2, v3, v4] st A Q := c_go i_220_14 rfl rfl
theorem q_220_17 : XX d 220 17 [v0, v1, v2, v3, v4] st A Q ↔ XX d 220 18 [v0, v1, v2, v3, v4] (.int (w 0) :: st) A Q := c_stk i_220_17 rfl
theorem q_220_18 : XX d 220 18 [v0, v1, v2, v3, v4] st A Q ↔ XX d 220 19 [v0, v1, v2, v3, v4] (.int (w 1) :: st) A Q := c_stk i_220_18 rfl
theorem q_220_19 : XX d 220 19 [v0, v1, v2, v3, v4] st A Q ↔ XX d 220 20 [v0, v1, v2, v3, v4] (.int (w 0) :: st) A Q := c_stk i_220_19 rfl
theorem q_220_20 : XX (d + 1) 220 20 [v0, v1, v2, v3, v4] [.int x3, .int x2, .int x1, .ref a0] (mk S I L R G) Q ↔ S a0 = some (.inr 12) ∧ XC d 154 [.ref a0, .int x1, .int x2, .int x3] (mk S I L R G) (XK (d + 1) 220 20 [v0, v1, v2, v3, v4] [] Q) := c_callV i_220_20 rfl rfl rfl rfl (Nat.le_of_ble_eq_true rfl) (Nat.le_of_ble_eq_true rfl) rfl
theorem q_220_23 : XX d 220 23 [v0, v1, v2, v3, v4] (.int x :: st) A Q ↔ if x = w 0 then XX d 220 26 [v0, v1, v2, v3, v4] st A Q else XX d 220 61 [v0, v1, v2, v3, v4] st A Q := z_ne i_220_23 rfl rfl rfl
theorem q_220_26 : XX d 220 26 [some (.ref a), v1, v2, v3, v4] st A Q ↔ XX d 220 27 [some (.ref a), v1, v2, v3, v4] (.ref a :: st) A Q := c_lcl i_220_26 rfl rfl
theorem q_220_27 : XX d 220 27 [v0, v1, some (.int x), v3, v4] st A Q ↔ XX d 220 28 [v0, v1, some (.int x), v3, v4] (.int x :: st) A Q := c_lcl i_220_27 rfl rfl
theorem q_220_28 : XX d 220 28 [v0, v1, v2, v3, v4] st A Q ↔ XX d 220 29 [v0, v1, v2, v3, v4] (.int (w 0) :: st) A Q := c_stk i_220_28 rfl
theorem q_220_29 : XX d 220 29 [some (.ref a), v1, v2, v3, v4] st A Q ↔ XX d 220 30 [some (.ref a), v1, v2, v3, v4] (.ref a :: st) A Q := c_lcl i_220_29 rfl rfl
theorem q_220_30 : XX d 220 30 [v0, v1, v2, v3, v4] (.ref a :: st) (mk S I L R G) Q ↔ S a = some (.inr 12) ∧ XX d 220 33 [v0, v1, v2, v3, v4] (.int (I a 2) :: st) (mk S I L R G) Q := r_gf i_220_30 rfl (by decide) rfl
theorem q_220_33 : XX (d + 1) 220 33 [v0, v1, v2, v3, v4] [.int x2, .int x1, .int x0, .ref a3] A Q ↔ XC d 155 [.int x0, .int x1, .int x2] A (XK (d + 1) 220 33 [v0, v1, v2, v3, v4] [.ref a3] Q) := c_callS i_220_33 rfl rfl rfl rfl (Nat.le_of_ble_eq_true rfl) (Nat.le_of_ble_eq_true rfl)
theorem q_220_36 : XX d 220 36 [v0, v1, v2, v3, v4] (.int x :: st) A Q ↔ if x = w 0 then XX d 220 48 [v0, v1, v2, v3, v4] st A Q else XX d 220 39 [v0, v1, v2, v3, v4] st A Q := z_eq i_220_36 rfl rfl rfl
theorem q_220_39 : XX d 220 39 [v0, v1, v2, some (.int x), v4] st A Q ↔ XX d 220 40 [v0, v1, v2, some (.int x), v4] (.int x :: st) A Q := c_lcl i_220_39 rfl rfl
theorem q_220_40 : XX d 220 40 [v0, v1, v2, v3, v4] st A Q ↔ XX d 220 41 [v0, v1, v2, v3, v4] (.int (w 0) :: st) A Q := c_stk i_220_40 rfl
theorem q_220_41 : XX d 220 41 [v0, v1, v2, v3, v4] st A Q ↔ XX d 220 42 [v0, v1, v2, v3, v4] (.int (w 2) :: st) A Q := c_stk i_220_41 rfl
theorem q_220_42 : XX (d + 1) 220 42 [v0, v1, v2, v3, v4] [.int x2, .int x1, .int x0, .ref a3] A Q ↔ XC d 155 [.int x0, .int x1, .int x2] A (XK (d + 1) 220 42 [v0, v1, v2, v3, v4] [.ref a3] Q) := c_callS i_220_42 rfl rfl rfl rfl (Nat.le_of_ble_eq_true rfl) (Nat.le_of_ble_eq_true rfl)
theorem q_220_45 : XX d 220 45 [v0, v1, v2, v3, v4] (.int x :: st) A Q ↔ if x = w 0 then XX d 220 48 [v0, v1, v2, v3, v4] st A Q else XX d 220 52 [v0, v1, v2, v3, v4] st A Q := z_ne i_220_45 rfl rfl rfl
theorem q_220_48 : XX d 220 48 [v0, v1, v2, v3, v4] st A Q ↔ XX d 220 49 [v0, v1, v2, v3, v4] (.int (w 1) :: st) A Q := c_stk i_220_48 rfl
theorem q_220_49 : XX d 220 49 [v0, v1, v2, v3, v4] st A Q ↔ XX d 220 53 [v0, v1, v2, v3, v4] st A Q := c_go i_220_49 rfl rfl
theorem q_220_52 : XX d 220 52 [v0, v1, v2, v3, v4] st A Q ↔ XX d 220 53 [v0, v1, v2, v3, v4] (.int (w 0) :: st) A Q := c_stk i_220_52 rfl
theorem q_220_53 : XX d 220 53 [v0, v1, v2, v3, v4] st A Q ↔ XX d 220 54 [v0, v1, v2, v3, v4] (.int (w 2) :: st) A Q := c_stk i_220_53 rfl
theorem q_220_54 : XX d 220 54 [v0, v1, v2, v3, v4] st A Q ↔ XX d 220 55 [v0, v1, v2, v3, v4] (.int (w 1) :: st) A Q := c_stk i_220_54 rfl
theorem q_220_55 : XX (d + 1) 220 55 [v0, v1, v2, v3, v4] [.int x3, .int x2, .int x1, .ref a0] (mk S I L R G) Q ↔ S a0 = some (.inr 12) ∧ XC d 154 [.ref a0, .int x1, .int x2, .int x3] (mk S I L R G) (XK (d + 1) 220 55 [v0, v1, v2, v3, v4] [] Q) := c_callV i_220_55 rfl rfl rfl rfl (Nat.le_of_ble_eq_true rfl) (Nat.le_of_ble_eq_true rfl) rfl
theorem q_220_58 : XX d 220 58 [v0, v1, v2, v3, v4] (.int x :: st) A Q ↔ if x = w 0 then XX d 220 63 [v0, v1, v2, v3, v4] st A Q else XX d 220 61 [v0, v1, v2, v3, v4] st A Q := z_eq i_220_58 rfl rfl rfl
theorem q_220_61 : XX d 220 61 [v0, v1, v2, v3, v4] st A Q ↔ XX d 220 62 [v0, v1, v2, v3, v4] (.int (w 0) :: st) A Q := c_stk i_220_61 rfl
theorem q_220_62 : XX d 220 62 [v0, v1, v2, v3, v4] [.int x] A Q ↔ Q (.inl (some (.int x))) A := e_retI i_220_62 rfl
theorem q_220_63 : XX d 220 63 [some (.ref a), v1, v2, v3, v4] st A Q ↔ XX d 220 64 [some (.ref a), v1, v2, v3, v4] (.ref a :: st) A Q := c_lcl i_220_63 rfl rfl
theorem q_220_64 : XX d 220 64 [v0, some (.int x), v2, v3, v4] st A Q ↔ XX d 220 65 [v0, some (.int x), v2, v3, v4] (.int x :: st) A Q := c_lcl i_220_64 rfl rfl
theorem q_220_65 : XX (d + 1) 220 65 [v0, v1, v2, v3, v4] [.int x1, .ref a0] (mk S I L R G) Q ↔ S a0 = some (.inr 12) ∧ XC d 194 [.ref a0, .int x1] (mk S I L R G) (XK (d + 1) 220 65 [v0, v1, v2, v3, v4] [] Q) := c_callV i_220_65 rfl rfl rfl rfl (Nat.le_of_ble_eq_true rfl) (Nat.le_of_ble_eq_true rfl) rfl
theorem q_220_68 : XX d 220 68 [v0, v1, v2, v3, v4] st A Q ↔ XX d 220 69 [v0, v1, v2, v3, v4] (.int (w 0) :: st) A Q := c_stk i_220_68 rfl
theorem q_220_69 : XX d 220 69 [v0, v1, v2, some (.int z), v4] (.int x :: st) A Q ↔ XX d 220 71 [v0, v1, v2, some (.int z), some (.int x)] st A Q := c_lcl i_220_69 rfl rfl
theorem q_220_71 : XX d 220 71 [v0, v1, v2, v3, some (.int x)] st A Q ↔ XX d 220 73 [v0, v1, v2, v3, some (.int x)] (.int x :: st) A Q := c_lcl i_220_71 rfl rfl
theorem q_220_73 : XX d 220 73 [v0, v1, some (.int x), v3, v4] st A Q ↔ XX d 220 74 [v0, v1, some (.int x), v3, v4] (.int x :: st) A Q := c_lcl i_220_73 rfl rfl
theorem q_220_74 : XX d 220 74 [v0, v1, v2, v3, v4] (.int y :: .int x :: st) A Q ↔ if x < y then XX d 220 77 [v0, v1, v2, v3, v4] st A Q else XX d 220 98 [v0, v1, v2, v3, v4] st A Q := b_ge i_220_74 rfl rfl rfl
theorem q_220_77 : XX d 220 77 [some (.ref a), v1, v2, v3, v4] st A Q ↔ XX d 220 78 [some (.ref a), v1, v2, v3, v4] (.ref a :: st) A Q := c_lcl i_220_77 rfl rfl
theorem q_220_78 : XX d 220 78 [v0, v1, v2, v3, v4] (.ref a :: st) (mk S I L R G) Q ↔ S a = some (.inr 12) ∧ XX d 220 81 [v0, v1, v2, v3, v4] (.ref (a + 6585) :: st) (mk S I L R G) Q := r_gf i_220_78 rfl (by decide) rfl
theorem q_220_81 : XX d 220 81 [v0, v1, v2, v3, some (.int x)] st A Q ↔ XX d 220 83 [v0, v1, v2, v3, some (.int x)] (.int x :: st) A Q := c_lcl i_220_81 rfl rfl
theorem q_220_83 : XX d 220 83 [some (.ref a), v1, v2, v3, v4] st A Q ↔ XX d 220 84 [some (.ref a), v1, v2, v3, v4] (.ref a :: st) A Q := c_lcl i_220_83 rfl rfl
theorem q_220_84 : XX d 220 84 [v0, v1, v2, v3, v4] (.ref a :: st) (mk S I L R G) Q ↔ S a = some (.inr 12) ∧ XX d 220 87 [v0, v1, v2, v3, v4] (.ref (a + 2) :: st) (mk S I L R G) Q := r_gf i_220_84 rfl (by decide) rfl
theorem q_220_87 : XX d 220 87 [v0, v1, v2, v3, some (.int x)] st A Q ↔ XX d 220 89 [v0, v1, v2, v3, some (.int x)] (.int x :: st) A Q := c_lcl i_220_87 rfl rfl
theorem q_220_89 : XX d 220 89 [v0, v1, v2, v3, v4] (.int x :: .ref a :: st) (mk S I L R G) Q ↔ inA (S a) ok_i x ∧ XX d 220 90 [v0, v1, v2, v3, v4] (.int (I a (ix x)) :: st) (mk S I L R G) Q := r_ia i_220_89
theorem q_220_90 : XX d 220 90 [v0, v1, v2, v3, v4] (.int x :: st) A Q ↔ XX d 220 91 [v0, v1, v2, v3, v4] (.int x.toInt8.toInt32 :: st) A Q := c_stk i_220_90 rfl
theorem q_220_91 : XX d 220 91 [v0, v1, v2, v3, v4] (.int y :: .int x :: .ref a :: st) (mk S I L R G) Q ↔ bsP (S a) x y (fun y => XX d 220 92 [v0, v1, v2, v3, v4] st (mk S (wr I a (up (I a) (ix x) y)) L R G) Q) := r_bas i_220_91
theorem q_220_92 : XX d 220 92 [v0, v1, v2, some (.int z), some (.int x)] st A Q ↔ XX d 220 95 [v0, v1, v2, some (.int z), some (.int (x + w 1))] st A Q := c_lcl i_220_92 rfl rfl
theorem q_220_95 : XX d 220 95 [v0, v1, v2, v3, v4] st A Q ↔ XX d 220 71 [v0, v1, v2, v3, v4] st A Q := c_go i_220_95 rfl rfl
theorem q_220_98 : XX d 220 98 [some (.ref a), v1, v2, v3, v4] st A Q ↔ XX d 220 99 [some (.ref a), v1, v2, v3, v4] (.ref a :: st) A Q := c_lcl i_220_98 rfl rfl
theorem q_220_99 : XX d 220 99 [some (.ref a), v1, v2, v3, v4] st A Q ↔ XX d 220 100 [some (.ref a), v1, v2, v3, v4] (.ref a :: st) A Q := c_lcl i_220_99 rfl rfl
theorem q_220_100 : XX d 220 100 [v0, v1, v2, v3, v4] (.ref a :: st) (mk S I L R G) Q ↔ S a = some (.inr 12) ∧ XX d 220 103 [v0, v1, v2, v3, v4] (.ref (a + 6585) :: st) (mk S I L R G) Q := r_gf i_220_100 rfl (by decide) rfl
theorem q_220_103 : XX d 220 103 [v0, v1, v2, v3, v4] st A Q ↔ XX d 220 104 [v0, v1, v2, v3, v4] (.int (w 0) :: st) A Q := c_stk i_220_103 rfl
theorem q_220_104 : XX d 220 104 [v0, v1, some (.int x), v3, v4] st A Q ↔ XX d 220 105 [v0, v1, some (.int x), v3, v4] (.int x :: st) A Q := c_lcl i_220_104 rfl rfl
theorem q_220_105 : XX (d + 1) 220 105 [v0, v1, v2, v3, v4] [.int x3, .int x2, .ref a1, .ref a0] (mk S I L R G) Q ↔ S a0 = some (.inr 12) ∧ XC d 219 [.ref a0, .ref a1, .int x2, .int x3] (mk S I L R G) (XK (d + 1) 220 105 [v0, v1, v2, v3, v4] [] Q) := c_callV i_220_105 rfl rfl rfl rfl (Nat.le_of_ble_eq_true rfl) (Nat.le_of_ble_eq_true rfl) rfl
theorem q_220_108 : XX d 220 108 [v0, v1, v2, some (.int x), v4] st A Q ↔ XX d 220 109 [v0, v1, v2, some (.int x), v4] (.int x :: st) A Q := c_lcl i_220_108 rfl rfl
theorem q_220_109 : XX d 220 109 [v0, v1, v2, v3, v4] (.int x :: st) A Q ↔ if x = w 0 then XX d 220 112 [v0, v1, v2, v3, v4] st A Q else XX d 220 119 [v0, v1, v2, v3, v4] st A Q := z_ne i_220_109 rfl rfl rfl
theorem q_220_112 : XX d 220 112 [some (.ref a), v1, v2, v3, v4] st A Q ↔ XX d 220 113 [some (.ref a), v1, v2, v3, v4] (.ref a :: st) A Q := c_lcl i_220_112 rfl rfl
theorem q_220_113 : XX d 220 113 [v0, v1, v2, v3, v4] (.ref a :: st) (mk S I L R G) Q ↔ S a = some (.inr 12) ∧ XX d 220 116 [v0, v1, v2, v3, v4] (.int (I a 33) :: st) (mk S I L R G) Q := r_gf i_220_113 rfl (by decide) rfl
theorem q_220_116 : XX d 220 116 [v0, v1, v2, v3, v4] st A Q ↔ XX d 220 135 [v0, v1, v2, v3, v4] st A Q := c_go i_220_116 rfl rfl
theorem q_220_119 : XX d 220 119 [v0, v1, v2, some (.int x), v4] st A Q ↔ XX d 220 120 [v0, v1, v2, some (.int x), v4] (.int x :: st) A Q := c_lcl i_220_119 rfl rfl
theorem q_220_120 : XX d 220 120 [v0, v1, v2, v3, v4] st A Q ↔ XX d 220 121 [v0, v1, v2, v3, v4] (.int (w 1) :: st) A Q := c_stk i_220_120 rfl
theorem q_220_121 : XX d 220 121 [v0, v1, v2, v3, v4] (.int y :: .int x :: st) A Q ↔ if x = y then XX d 220 124 [v0, v1, v2, v3, v4] st A Q else XX d 220 131 [v0, v1, v2, v3, v4] st A Q := b_ne i_220_121 rfl rfl rfl
theorem q_220_124 : XX d 220 124 [some (.ref a), v1, v2, v3, v4] st A Q ↔ XX d 220 125 [some (.ref a), v1, v2, v3, v4] (.ref a :: st) A Q := c_lcl i_220_124 rfl rfl
theorem q_220_125 : XX d 220 125 [v0, v1, v2, v3, v4] (.ref a :: st) (mk S I L R G) Q ↔ S a = some (.inr 12) ∧ XX d 220 128 [v0, v1, v2, v3, v4] (.int (I a 34) :: st) (mk S I L R G) Q := r_gf i_220_125 rfl (by decide) rfl
theorem q_220_128 : XX d 220 128 [v0, v1, v2, v3, v4] st A Q ↔ XX d 220 135 [v0, v1, v2, v3, v4] st A Q := c_go i_220_128 rfl rfl
theorem q_220_131 : XX d 220 131 [some (.ref a), v1, v2, v3, v4] st A Q ↔ XX d 220 132 [some (.ref a), v1, v2, v3, v4] (.ref a :: st) A Q := c_lcl i_220_131 rfl rfl
theorem q_220_132 : XX d 220 132 [v0, v1, v2, v3, v4] (.ref a :: st) (mk S I L R G) Q ↔ S a = some (.inr 12) ∧ XX d 220 135 [v0, v1, v2, v3, v4] (.int (I a 35) :: st) (mk S I L R G) Q := r_gf i_220_132 rfl (by decide) rfl
theorem q_220_135 : XX d 220 135 [v0, v1, v2, v3, v4] [.int x] A Q ↔ Q (.inl (some (.int x))) A := e_retI i_220_135 rfl
theorem q_220_e : XC d 220 [.ref a0, .int x1, .int x2, .int x3] A Q ↔ XX d 220 0 [some (.ref a0), some (.int x1), some (.int x2), some (.int x3), none] [] A Q := Iff.rfl
theorem i_221_0 : t_ins 221 0 = some (.iconst 0) := by decide +kernel
theorem i_221_1 : t_ins 221 1 = some (.istore_n 2) := by decide +kernel
theorem i_221_2 : t_ins 221 2 = some (.aload_n 0) := by decide +kernel
theorem i_221_3 : t_ins 221 3 = some (.iconst 0) := by decide +kernel
theorem i_221_4 : t_ins 221 4 = some (.putfield 356) := by decide +kernel
theorem i_221_7 : t_ins 221 7 = some (.iconst 0) := by decide +kernel
theorem i_221_8 : t_ins 221 8 = some (.istore_n 3) := by decide +kernel
theorem i_221_9 : t_ins 221 9 = some (.iload_n 3) := by decide +kernel
theorem i_221_10 : t_ins 221 10 = some (.iload_n 1) := by decide +kernel
theorem i_221_11 : t_ins 221 11 = some (.if_icmp .ge 131) := by decide +kernel
theorem i_221_14 : t_ins 221 14 = some (.aload_n 0) := by decide +kernel
theorem i_221_15 : t_ins 221 15 = some (.getfield 17) := by decide +kernel
theorem i_221_18 : t_ins 221 18 = some (.iload_n 3) := by decide +kernel
theorem i_221_19 : t_ins 221 19 = some (.iaload) := by decide +kernel
theorem i_221_20 : t_ins 221 20 = some (.istore 4) := by decide +kernel
theorem i_221_22 : t_ins 221 22 = some (.iload 4) := by decide +kernel
theorem i_221_24 : t_ins 221 24 = some (.bipush 32) := by decide +kernel
theorem i_221_26 : t_ins 221 26 = some (.if_icmp .eq 13) := by decide +kernel
theorem i_221_29 : t_ins 221 29 = some (.iload 4) := by decide +kernel
theorem i_221_31 : t_ins 221 31 = some (.invokestatic 165) := by decide +kernel
theorem i_221_34 : t_ins 221 34 = some (.ifCond .ne 5) := by decide +kernel
theorem i_221_37 : t_ins 221 37 = some (.iconst 0) := by decide +kernel
theorem i_221_38 : t_ins 221 38 = some (.ireturn) := by decide +kernel
theorem i_221_39 : t_ins 221 39 = some (.iload 4) := by decide +kernel
theorem i_221_41 : t_ins 221 41 = some (.bipush 32) := by decide +kernel
theorem i_221_43 : t_ins 221 43 = some (.if_icmp .ne 6) := by decide +kernel
theorem i_221_46 : t_ins 221 46 = some (.goto 90) := by decide +kernel
theorem i_221_49 : t_ins 221 49 = some (.iload_n 3) := by decide +kernel
theorem i_221_50 : t_ins 221 50 = some (.ifCond .eq 16) := by decide +kernel
theorem i_221_53 : t_ins 221 53 = some (.aload_n 0) := by decide +kernel
theorem i_221_54 : t_ins 221 54 = some (.getfield 17) := by decide +kernel
theorem i_221_57 : t_ins 221 57 = some (.iload_n 3) := by decide +kernel
theorem i_221_58 : t_ins 221 58 = some (.iconst 1) := by decide +kernel
theorem i_221_59 : t_ins 221 59 = some (.isub) := by decide +kernel
theorem i_221_60 : t_ins 221 60 = some (.iaload) := by decide +kernel
theorem i_221_61 : t_ins 221 61 = some (.bipush 32) := by decide +kernel
theorem i_221_63 : t_ins 221 63 = some (.if_icmp .ne 49) := by decide +kernel
theorem i_221_66 : t_ins 221 66 = some (.aload_n 0) := by decide +kernel
theorem i_221_67 : t_ins 221 67 = some (.getfield 356) := by decide +kernel
theorem i_221_70 : t_ins 221 70 = some (.bipush 40) := by decide +kernel
theorem i_221_72 : t_ins 221 72 = some (.if_icmp .ne 5) := by decide +kernel
theorem i_221_75 : t_ins 221 75 = some (.iconst 0) := by decide +kernel
theorem i_221_76 : t_ins 221 76 = some (.ireturn) := by decide +kernel
theorem i_221_77 : t_ins 221 77 = some (.iload_n 2) := by decide +kernel
theorem i_221_78 : t_ins 221 78 = some (.ifCond .le 14) := by decide +kernel
theorem i_221_81 : t_ins 221 81 = some (.aload_n 0) := by decide +kernel
theorem i_221_82 : t_ins 221 82 = some (.getfield 79) := by decide +kernel
theorem i_221_85 : t_ins 221 85 = some (.iload_n 2) := by decide +kernel
theorem i_221_86 : t_ins 221 86 = some (.bipush 32) := by decide +kernel
theorem i_221_88 : t_ins 221 88 = some (.bastore) := by decide +kernel
theorem i_221_89 : t_ins 221 89 = some (.iinc 2 1) := by decide +kernel
theorem i_221_92 : t_ins 221 92 = some (.aload_n 0) := by decide +kernel
theorem i_221_93 : t_ins 221 93 = some (.getfield 82) := by decide +kernel
theorem i_221_96 : t_ins 221 96 = some (.aload_n 0) := by decide +kernel
theorem i_221_97 : t_ins 221 97 = some (.getfield 356) := by decide +kernel
theorem i_221_100 : t_ins 221 100 = some (.iload_n 2) := by decide +kernel
theorem i_221_101 : t_ins 221 101 = some (.iastore) := by decide +kernel
theorem i_221_102 : t_ins 221 102 = some (.aload_n 0) := by decide +kernel
theorem i_221_103 : t_ins 221 103 = some (.dup) := by decide +kernel
theorem i_221_104 : t_ins 221 104 = some (.getfield 356) := by decide +kernel
theorem i_221_107 : t_ins 221 107 = some (.iconst 1) := by decide +kernel
theorem i_221_108 : t_ins 221 108 = some (.iadd) := by decide +kernel
theorem i_221_109 : t_ins 221 109 = some (.putfield 356) := by decide +kernel
theorem i_221_112 : t_ins 221 112 = some (.aload_n 0) := by decide +kernel
theorem i_221_113 : t_ins 221 113 = some (.getfield 79) := by decide +kernel
theorem i_221_116 : t_ins 221 116 = some (.iload_n 2) := by decide +kernel
theorem i_221_117 : t_ins 221 117 = some (.iload 4) := by decide +kernel
theorem i_221_119 : t_ins 221 119 = some (.i2b) := by decide +kernel
theorem i_221_120 : t_ins 221 120 = some (.bastore) := by decide +kernel
theorem i_221_121 : t_ins 221 121 = some (.iinc 2 1) := by decide +kernel
theorem i_221_124 : t_ins 221 124 = some (.aload_n 0) := by decide +kernel
theorem i_221_125 : t_ins 221 125 = some (.getfield 85) := by decide +kernel
theorem i_221_128 : t_ins 221 128 = some (.aload_n 0) := by decide +kernel
theorem i_221_129 : t_ins 221 129 = some (.getfield 356) := by decide +kernel
theorem i_221_132 : t_ins 221 132 = some (.iconst 1) := by decide +kernel
theorem i_221_133 : t_ins 221 133 = some (.isub) := by decide +kernel
theorem i_221_134 : t_ins 221 134 = some (.iload_n 2) := by decide +kernel
theorem i_221_135 : t_ins 221 135 = some (.iastore) := by decide +kernel
theorem i_221_136 : t_ins 221 136 = some (.iinc 3 1) := by decide +kernel
theorem i_221_139 : t_ins 221 139 = some (.goto (-130)) := by decide +kernel
theorem i_221_142 : t_ins 221 142 = some (.iconst 1) := by decide +kernel
theorem i_221_143 : t_ins 221 143 = some (.ireturn) := by decide +kernel
theorem q_221_0 : XX d 221 0 [v0, v1, v2, v3, v4] st A Q ↔ XX d 221 1 [v0, v1, v2, v3, v4] (.int (w 0) :: st) A Q := c_stk i_221_0 rfl
theorem q_221_1 : XX d 221 1 [v0, some (.int z), v2, v3, v4] (.int x :: st) A Q ↔ XX d 221 2 [v0, some (.int z), some (.int x), v3, v4] st A Q := c_lcl i_221_1 rfl rfl
theorem q_221_2 : XX d 221 2 [some (.ref a), v1, v2, v3, v4] st A Q ↔ XX d 221 3 [some (.ref a), v1, v2, v3, v4] (.ref a :: st) A Q := c_lcl i_221_2 rfl rfl
theorem q_221_3 : XX d 221 3 [v0, v1, v2, v3, v4] st A Q ↔ XX d 221 4 [v0, v1, v2, v3, v4] (.int (w 0) :: st) A Q := c_stk i_221_3 rfl
theorem q_221_4 : XX d 221 4 [v0, v1, v2, v3, v4] (.int x :: .ref a :: st) (mk S I L R G) Q ↔ S a = some (.inr 12) ∧ XX d 221 7 [v0, v1, v2, v3, v4] st (mk S (wr I a (up (I a) 36 x)) L R G) Q := r_pf i_221_4 rfl (by decide) rfl rfl rfl
theorem q_221_7 : XX d 221 7 [v0, v1, v2, v3, v4] st A Q ↔ XX d 221 8 [v0, v1, v2, v3, v4] (.int (w 0) :: st) A Q := c_stk i_221_7 rfl
theorem q_221_8 : XX d 221 8 [v0, v1, some (.int z), v3, v4] (.int x :: st) A Q ↔ XX d 221 9 [v0, v1, some (.int z), some (.int x), v4] st A Q := c_lcl i_221_8 rfl rfl
theorem q_221_9 : XX d 221 9 [v0, v1, v2, some (.int x), v4] st A Q ↔ XX d 221 10 [v0, v1, v2, some (.int x), v4] (.int x :: st) A Q := c_lcl i_221_9 rfl rfl
theorem q_221_10 : XX d 221 10 [v0, some (.int x), v2, v3, v4] st A Q ↔ XX d 221 11 [v0, some (.int x), v2, v3, v4] (.int x :: st) A Q := c_lcl i_221_10 rfl rfl
theorem q_221_11 : XX d 221 11 [v0, v1, v2, v3, v4] (.int y :: .int x :: st) A Q ↔ if x < y then XX d 221 14 [v0, v1, v2, v3, v4] st A Q else XX d 221 142 [v0, v1, v2, v3, v4] st A Q := b_ge i_221_11 rfl rfl rfl
theorem q_221_14 : XX d 221 14 [some (.ref a), v1, v2, v3, v4] st A Q ↔ XX d 221 15 [some (.ref a), v1, v2, v3, v4] (.ref a :: st) A Q := c_lcl i_221_14 rfl rfl
theorem q_221_15 : XX d 221 15 [v0, v1, v2, v3, v4] (.ref a :: st) (mk S I L R G) Q ↔ S a = some (.inr 12) ∧ XX d 221 18 [v0, v1, v2, v3, v4] (.ref (a + 2) :: st) (mk S I L R G) Q := r_gf i_221_15 rfl (by decide) rfl
theorem q_221_18 : XX d 221 18 [v0, v1, v2, some (.int x), v4] st A Q ↔ XX d 221 19 [v0, v1, v2, some (.int x), v4] (.int x :: st) A Q := c_lcl i_221_18 rfl rfl
theorem q_221_19 : XX d 221 19 [v0, v1, v2, v3, v4] (.int x :: .ref a :: st) (mk S I L R G) Q ↔ inA (S a) ok_i x ∧ XX d 221 20 [v0, v1, v2, v3, v4] (.int (I a (ix x)) :: st) (mk S I L R G) Q := r_ia i_221_19
theorem q_221_20 : XX d 221 20 [v0, v1, v2, some (.int z), v4] (.int x :: st) A Q ↔ XX d 221 22 [v0, v1, v2, some (.int z), some (.int x)] st A Q := c_lcl i_221_20 rfl rfl
theorem q_221_22 : XX d 221 22 [v0, v1, v2, v3, some (.int x)] st A Q ↔ XX d 221 24 [v0, v1, v2, v3, some (.int x)] (.int x :: st) A Q := c_lcl i_221_22 rfl rfl
theorem q_221_24 : XX d 221 24 [v0, v1, v2, v3, v4] st A Q ↔ XX d 221 26 [v0, v1, v2, v3, v4] (.int (w 32) :: st) A Q := c_stk i_221_24 rfl
theorem q_221_26 : XX d 221 26 [v0, v1, v2, v3, v4] (.int y :: .int x :: st) A Q ↔ if x = y then XX d 221 39 [v0, v1, v2, v3, v4] st A Q else XX d 221 29 [v0, v1, v2, v3, v4] st A Q := b_eq i_221_26 rfl rfl rfl
theorem q_221_29 : XX d 221 29 [v0, v1, v2, v3, some (.int x)] st A Q ↔ XX d 221 31 [v0, v1, v2, v3, some (.int x)] (.int x :: st) A Q := c_lcl i_221_29 rfl rfl
theorem q_221_31 : XX (d + 1) 221 31 [v0, v1, v2, v3, v4] [.int x0] A Q ↔ XC d 163 [.int x0] A (XK (d + 1) 221 31 [v0, v1, v2, v3, v4] [] Q) := c_callS i_221_31 rfl rfl rfl rfl (Nat.le_of_ble_eq_true rfl) (Nat.le_of_ble_eq_true rfl)
theorem q_221_34 : XX d 221 34 [v0, v1, v2, v3, v4] (.int x :: st) A Q ↔ if x = w 0 then XX d 221 37 [v0, v1, v2, v3, v4] st A Q else XX d 221 39 [v0, v1, v2, v3, v4] st A Q := z_ne i_221_34 rfl rfl rfl
theorem q_221_37 : XX d 221 37 [v0, v1, v2, v3, v4] st A Q ↔ XX d 221 38 [v0, v1, v2, v3, v4] (.int (w 0) :: st) A Q := c_stk i_221_37 rfl
theorem q_221_38 : XX d 221 38 [v0, v1, v2, v3, v4] [.int x] A Q ↔ (x = w 0 ∨ x = w 1) ∧ Q (.inl (some (.int x))) A := e_retZ i_221_38 rfl
theorem q_221_39 : XX d 221 39 [v0, v1, v2, v3, some (.int x)] st A Q ↔ XX d 221 41 [v0, v1, v2, v3, some (.int x)] (.int x :: st) A Q := c_lcl i_221_39 rfl rfl
theorem q_221_41 : XX d 221 41 [v0, v1, v2, v3, v4] st A Q ↔ XX d 221 43 [v0, v1, v2, v3, v4] (.int (w 32) :: st) A Q := c_stk i_221_41 rfl
theorem q_221_43 : XX d 221 43 [v0, v1, v2, v3, v4] (.int y :: .int x :: st) A Q ↔ if x = y then XX d 221 46 [v0, v1, v2, v3, v4] st A Q else XX d 221 49 [v0, v1, v2, v3, v4] st A Q := b_ne i_221_43 rfl rfl rfl
theorem q_221_46 : XX d 221 46 [v0, v1, v2, v3, v4] st A Q ↔ XX d 221 136 [v0, v1, v2, v3, v4] st A Q := c_go i_221_46 rfl rfl
theorem q_221_49 : XX d 221 49 [v0, v1, v2, some (.int x), v4] st A Q ↔ XX d 221 50 [v0, v1, v2, some (.int x), v4] (.int x :: st) A Q := c_lcl i_221_49 rfl rfl
theorem q_221_50 : XX d 221 50 [v0, v1, v2, v3, v4] (.int x :: st) A Q ↔ if x = w 0 then XX d 221 66 [v0, v1, v2, v3, v4] st A Q else XX d 221 53 [v0, v1, v2, v3, v4] st A Q := z_eq i_221_50 rfl rfl rfl
theorem q_221_53 : XX d 221 53 [some (.ref a), v1, v2, v3, v4] st A Q ↔ XX d 221 54 [some (.ref a), v1, v2, v3, v4] (.ref a :: st) A Q := c_lcl i_221_53 rfl rfl
theorem q_221_54 : XX d 221 54 [v0, v1, v2, v3, v4] (.ref a :: st) (mk S I L R G) Q ↔ S a = some (.inr 12) ∧ XX d 221 57 [v0, v1, v2, v3, v4] (.ref (a + 2) :: st) (mk S I L R G) Q := r_gf i_221_54 rfl (by decide) rfl
theorem q_221_57 : XX d 221 57 [v0, v1, v2, some (.int x), v4] st A Q ↔ XX d 221 58 [v0, v1, v2, some (.int x), v4] (.int x :: st) A Q := c_lcl i_221_57 rfl rfl
theorem q_221_58 : XX d 221 58 [v0, v1, v2, v3, v4] st A Q ↔ XX d 221 59 [v0, v1, v2, v3, v4] (.int (w 1) :: st) A Q := c_stk i_221_58 rfl
theorem q_221_59 : XX d 221 59 [v0, v1, v2, v3, v4] (.int y :: .int x :: st) A Q ↔ XX d 221 60 [v0, v1, v2, v3, v4] (.int (x - y) :: st) A Q := c_stk i_221_59 rfl
theorem q_221_60 : XX d 221 60 [v0, v1, v2, v3, v4] (.int x :: .ref a :: st) (mk S I L R G) Q ↔ inA (S a) ok_i x ∧ XX d 221 61 [v0, v1, v2, v3, v4] (.int (I a (ix x)) :: st) (mk S I L R G) Q := r_ia i_221_60
theorem q_221_61 : XX d 221 61 [v0, v1, v2, v3, v4] st A Q ↔ XX d 221 63 [v0, v1, v2, v3, v4] (.int (w 32) :: st) A Q := c_stk i_221_61 rfl
theorem q_221_63 : XX d 221 63 [v0, v1, v2, v3, v4] (.int y :: .int x :: st) A Q ↔ if x = y then XX d 221 66 [v0, v1, v2, v3, v4] st A Q else XX d 221 112 [v0, v1, v2, v3, v4] st A Q := b_ne i_221_63 rfl rfl rfl
theorem q_221_66 : XX d 221 66 [some (.ref a), v1, v2, v3, v4] st A Q ↔ XX d 221 67 [some (.ref a), v1, v2, v3, v4] (.ref a :: st) A Q := c_lcl i_221_66 rfl rfl
theorem q_221_67 : XX d 221 67 [v0, v1, v2, v3, v4] (.ref a :: st) (mk S I L R G) Q ↔ S a = some (.inr 12) ∧ XX d 221 70 [v0, v1, v2, v3, v4] (.int (I a 36) :: st) (mk S I L R G) Q := r_gf i_221_67 rfl (by decide) rfl
theorem q_221_70 : XX d 221 70 [v0, v1, v2, v3, v4] st A Q ↔ XX d 221 72 [v0, v1, v2, v3, v4] (.int (w 40) :: st) A Q := c_stk i_221_70 rfl
theorem q_221_72 : XX d 221 72 [v0, v1, v2, v3, v4] (.int y :: .int x :: st) A Q ↔ if x = y then XX d 221 75 [v0, v1, v2, v3, v4] st A Q else XX d 221 77 [v0, v1, v2, v3, v4] st A Q := b_ne i_221_72 rfl rfl rfl
theorem q_221_75 : XX d 221 75 [v0, v1, v2, v3, v4] st A Q ↔ XX d 221 76 [v0, v1, v2, v3, v4] (.int (w 0) :: st) A Q := c_stk i_221_75 rfl
theorem q_221_76 : XX d 221 76 [v0, v1, v2, v3, v4] [.int x] A Q ↔ (x = w 0 ∨ x = w 1) ∧ Q (.inl (some (.int x))) A := e_retZ i_221_76 rfl
theorem q_221_77 : XX d 221 77 [v0, v1, some (.int x), v3, v4] st A Q ↔ XX d 221 78 [v0, v1, some (.int x), v3, v4] (.int x :: st) A Q := c_lcl i_221_77 rfl rfl
theorem q_221_78 : XX d 221 78 [v0, v1, v2, v3, v4] (.int x :: st) A Q ↔ if w 0 < x then XX d 221 81 [v0, v1, v2, v3, v4] st A Q else XX d 221 92 [v0, v1, v2, v3, v4] st A Q := z_le i_221_78 rfl rfl rfl
theorem q_221_81 : XX d 221 81 [some (.ref a), v1, v2, v3, v4] st A Q ↔ XX d 221 82 [some (.ref a), v1, v2, v3, v4] (.ref a :: st) A Q := c_lcl i_221_81 rfl rfl
theorem q_221_82 : XX d 221 82 [v0, v1, v2, v3, v4] (.ref a :: st) (mk S I L R G) Q ↔ S a = some (.inr 12) ∧ XX d 221 85 [v0, v1, v2, v3, v4] (.ref (a + 6585) :: st) (mk S I L R G) Q := r_gf i_221_82 rfl (by decide) rfl
theorem q_221_85 : XX d 221 85 [v0, v1, some (.int x), v3, v4] st A Q ↔ XX d 221 86 [v0, v1, some (.int x), v3, v4] (.int x :: st) A Q := c_lcl i_221_85 rfl rfl
theorem q_221_86 : XX d 221 86 [v0, v1, v2, v3, v4] st A Q ↔ XX d 221 88 [v0, v1, v2, v3, v4] (.int (w 32) :: st) A Q := c_stk i_221_86 rfl
theorem q_221_88 : XX d 221 88 [v0, v1, v2, v3, v4] (.int y :: .int x :: .ref a :: st) (mk S I L R G) Q ↔ bsP (S a) x y (fun y => XX d 221 89 [v0, v1, v2, v3, v4] st (mk S (wr I a (up (I a) (ix x) y)) L R G) Q) := r_bas i_221_88
theorem q_221_89 : XX d 221 89 [v0, some (.int z), some (.int x), v3, v4] st A Q ↔ XX d 221 92 [v0, some (.int z), some (.int (x + w 1)), v3, v4] st A Q := c_lcl i_221_89 rfl rfl
theorem q_221_92 : XX d 221 92 [some (.ref a), v1, v2, v3, v4] st A Q ↔ XX d 221 93 [some (.ref a), v1, v2, v3, v4] (.ref a :: st) A Q := c_lcl i_221_92 rfl rfl
theorem q_221_93 : XX d 221 93 [v0, v1, v2, v3, v4] (.ref a :: st) (mk S I L R G) Q ↔ S a = some (.inr 12) ∧ XX d 221 96 [v0, v1, v2, v3, v4] (.ref (a + 6586) :: st) (mk S I L R G) Q := r_gf i_221_93 rfl (by decide) rfl
theorem q_221_96 : XX d 221 96 [some (.ref a), v1, v2, v3, v4] st A Q ↔ XX d 221 97 [some (.ref a), v1, v2, v3, v4] (.ref a :: st) A Q := c_lcl i_221_96 rfl rfl
theorem q_221_97 : XX d 221 97 [v0, v1, v2, v3, v4] (.ref a :: st) (mk S I L R G) Q ↔ S a = some (.inr 12) ∧ XX d 221 100 [v0, v1, v2, v3, v4] (.int (I a 36) :: st) (mk S I L R G) Q := r_gf i_221_97 rfl (by decide) rfl
theorem q_221_100 : XX d 221 100 [v0, v1, some (.int x), v3, v4] st A Q ↔ XX d 221 101 [v0, v1, some (.int x), v3, v4] (.int x :: st) A Q := c_lcl i_221_100 rfl rfl
theorem q_221_101 : XX d 221 101 [v0, v1, v2, v3, v4] (.int y :: .int x :: .ref a :: st) (mk S I L R G) Q ↔ inA (S a) ok_0 x ∧ XX d 221 102 [v0, v1, v2, v3, v4] st (mk S (wr I a (up (I a) (ix x) y)) L R G) Q := r_ias i_221_101
theorem q_221_102 : XX d 221 102 [some (.ref a), v1, v2, v3, v4] st A Q ↔ XX d 221 103 [some (.ref a), v1, v2, v3, v4] (.ref a :: st) A Q := c_lcl i_221_102 rfl rfl
theorem q_221_103 : XX d 221 103 [v0, v1, v2, v3, v4] (.ref a1 :: st) A Q ↔ XX d 221 104 [v0, v1, v2, v3, v4] (.ref a1 :: .ref a1 :: st) A Q := c_stk i_221_103 rfl
theorem q_221_104 : XX d 221 104 [v0, v1, v2, v3, v4] (.ref a :: st) (mk S I L R G) Q ↔ S a = some (.inr 12) ∧ XX d 221 107 [v0, v1, v2, v3, v4] (.int (I a 36) :: st) (mk S I L R G) Q := r_gf i_221_104 rfl (by decide) rfl
theorem q_221_107 : XX d 221 107 [v0, v1, v2, v3, v4] st A Q ↔ XX d 221 108 [v0, v1, v2, v3, v4] (.int (w 1) :: st) A Q := c_stk i_221_107 rfl
theorem q_221_108 : XX d 221 108 [v0, v1, v2, v3, v4] (.int y :: .int x :: st) A Q ↔ XX d 221 109 [v0, v1, v2, v3, v4] (.int (x + y) :: st) A Q := c_stk i_221_108 rfl
theorem q_221_109 : XX d 221 109 [v0, v1, v2, v3, v4] (.int x :: .ref a :: st) (mk S I L R G) Q ↔ S a = some (.inr 12) ∧ XX d 221 112 [v0, v1, v2, v3, v4] st (mk S (wr I a (up (I a) 36 x)) L R G) Q := r_pf i_221_109 rfl (by decide) rfl rfl rfl
theorem q_221_112 : XX d 221 112 [some (.ref a), v1, v2, v3, v4] st A Q ↔ XX d 221 113 [some (.ref a), v1, v2, v3, v4] (.ref a :: st) A Q := c_lcl i_221_112 rfl rfl
theorem q_221_113 : XX d 221 113 [v0, v1, v2, v3, v4] (.ref a :: st) (mk S I L R G) Q ↔ S a = some (.inr 12) ∧ XX d 221 116 [v0, v1, v2, v3, v4] (.ref (a + 6585) :: st) (mk S I L R G) Q := r_gf i_221_113 rfl (by decide) rfl
theorem q_221_116 : XX d 221 116 [v0, v1, some (.int x), v3, v4] st A Q ↔ XX d 221 117 [v0, v1, some (.int x), v3, v4] (.int x :: st) A Q := c_lcl i_221_116 rfl rfl
theorem q_221_117 : XX d 221 117 [v0, v1, v2, v3, some (.int x)] st A Q ↔ XX d 221 119 [v0, v1, v2, v3, some (.int x)] (.int x :: st) A Q := c_lcl i_221_117 rfl rfl
theorem q_221_119 : XX d 221 119 [v0, v1, v2, v3, v4] (.int x :: st) A Q ↔ XX d 221 120 [v0, v1, v2, v3, v4] (.int x.toInt8.toInt32 :: st) A Q := c_stk i_221_119 rfl
theorem q_221_120 : XX d 221 120 [v0, v1, v2, v3, v4] (.int y :: .int x :: .ref a :: st) (mk S I L R G) Q ↔ bsP (S a) x y (fun y => XX d 221 121 [v0, v1, v2, v3, v4] st (mk S (wr I a (up (I a) (ix x) y)) L R G) Q) := r_bas i_221_120
theorem q_221_121 : XX d 221 121 [v0, some (.int z), some (.int x), v3, v4] st A Q ↔ XX d 221 124 [v0, some (.int z), some (.int (x + w 1)), v3, v4] st A Q := c_lcl i_221_121 rfl rfl
theorem q_221_124 : XX d 221 124 [some (.ref a), v1, v2, v3, v4] st A Q ↔ XX d 221 125 [some (.ref a), v1, v2, v3, v4] (.ref a :: st) A Q := c_lcl i_221_124 rfl rfl
theorem q_221_125 : XX d 221 125 [v0, v1, v2, v3, v4] (.ref a :: st) (mk S I L R G) Q ↔ S a = some (.inr 12) ∧ XX d 221 128 [v0, v1, v2, v3, v4] (.ref (a + 6587) :: st) (mk S I L R G) Q := r_gf i_221_125 rfl (by decide) rfl
theorem q_221_128 : XX d 221 128 [some (.ref a), v1, v2, v3, v4] st A Q ↔ XX d 221 129 [some (.ref a), v1, v2, v3, v4] (.ref a :: st) A Q := c_lcl i_221_128 rfl rfl
theorem q_221_129 : XX d 221 129 [v0, v1, v2, v3, v4] (.ref a :: st) (mk S I L R G) Q ↔ S a = some (.inr 12) ∧ XX d 221 132 [v0, v1, v2, v3, v4] (.int (I a 36) :: st) (mk S I L R G) Q := r_gf i_221_129 rfl (by decide) rfl
theorem q_221_132 : XX d 221 132 [v0, v1, v2, v3, v4] st A Q ↔ XX d 221 133 [v0, v1, v2, v3, v4] (.int (w 1) :: st) A Q := c_stk i_221_132 rfl
theorem q_221_133 : XX d 221 133 [v0, v1, v2, v3, v4] (.int y :: .int x :: st) A Q ↔ XX d 221 134 [v0, v1, v2, v3, v4] (.int (x - y) :: st) A Q := c_stk i_221_133 rfl
theorem q_221_134 : XX d 221 134 [v0, v1, some (.int x), v3, v4] st A Q ↔ XX d 221 135 [v0, v1, some (.int x), v3, v4] (.int x :: st) A Q := c_lcl i_221_134 rfl rfl
theorem q_221_135 : XX d 221 135 [v0, v1, v2, v3, v4] (.int y :: .int x :: .ref a :: st) (mk S I L R G) Q ↔ inA (S a) ok_0 x ∧ XX d 221 136 [v0, v1, v2, v3, v4] st (mk S (wr I a (up (I a) (ix x) y)) L R G) Q := r_ias i_221_135
theorem q_221_136 : XX d 221 136 [v0, v1, some (.int z), some (.int x), v4] st A Q ↔ XX d 221 139 [v0, v1, some (.int z), some (.int (x + w 1)), v4] st A Q := c_lcl i_221_136 rfl rfl
theorem q_221_139 : XX d 221 139 [v0, v1, v2, v3, v4] st A Q ↔ XX d 221 9 [v0, v1, v2, v3, v4] st A Q := c_go i_221_139 rfl rfl
theorem q_221_142 : XX d 221 142 [v0, v1, v2, v3, v4] st A Q ↔ XX d 221 143 [v0, v1, v2, v3, v4] (.int (w 1) :: st) A Q := c_stk i_221_142 rfl
theorem q_221_143 : XX d 221 143 [v0, v1, v2, v3, v4] [.int x] A Q ↔ (x = w 0 ∨ x = w 1) ∧ Q (.inl (some (.int x))) A := e_retZ i_221_143 rfl
theorem q_221_e : XC d 221 [.ref a0, .int x1] A Q ↔ XX d 221 0 [some (.ref a0), some (.int x1), none, none, none] [] A Q := Iff.rfl
theorem i_222_0 : t_ins 222 0 = some (.iload_n 1) := by decide +kernel
theorem i_222_1 : t_ins 222 1 = some (.iconst 1) := by decide +kernel
theorem i_222_2 : t_ins 222 2 = some (.aload_n 0) := by decide +kernel
theorem i_222_3 : t_ins 222 3 = some (.getfield 124) := by decide +kernel
theorem i_222_6 : t_ins 222 6 = some (.invokestatic 230) := by decide +kernel
theorem i_222_9 : t_ins 222 9 = some (.ifCond .eq 15) := by decide +kernel
theorem i_222_12 : t_ins 222 12 = some (.aload_n 0) := by decide +kernel
theorem i_222_13 : t_ins 222 13 = some (.iload_n 1) := by decide +kernel
theorem i_222_14 : t_ins 222 14 = some (.invokevirtual 359) := by decide +kernel
theorem i_222_17 : t_ins 222 17 = some (.ifCond .eq 7) := by decide +kernel
theorem i_222_20 : t_ins 222 20 = some (.iconst 1) := by decide +kernel
theorem i_222_21 : t_ins 222 21 = some (.goto 4) := by decide +kernel
theorem i_222_24 : t_ins 222 24 = some (.iconst 0) := by decide +kernel
theorem i_222_25 : t_ins 222 25 = some (.ireturn) := by decide +kernel
theorem q_222_0 : XX d 222 0 [v0, some (.int x)] st A Q ↔ XX d 222 1 [v0, some (.int x)] (.int x :: st) A Q := c_lcl i_222_0 rfl rfl
theorem q_222_1 : XX d 222 1 [v0, v1] st A Q ↔ XX d 222 2 [v0, v1] (.int (w 1) :: st) A Q := c_stk i_222_1 rfl
theorem q_222_2 : XX d 222 2 [some (.ref a), v1] st A Q ↔ XX d 222 3 [some (.ref a), v1] (.ref a :: st) A Q := c_lcl i_222_2 rfl rfl
theorem q_222_3 : XX d 222 3 [v0, v1] (.ref a :: st) (mk S I L R G) Q ↔ S a = some (.inr 12) ∧ XX d 222 6 [v0, v1] (.int (I a 2) :: st) (mk S I L R G) Q := r_gf i_222_3 rfl (by decide) rfl
theorem q_222_6 : XX (d + 1) 222 6 [v0, v1] [.int x2, .int x1, .int x0] A Q ↔ XC d 155 [.int x0, .int x1, .int x2] A (XK (d + 1) 222 6 [v0, v1] [] Q) := c_callS i_222_6 rfl rfl rfl rfl (Nat.le_of_ble_eq_true rfl) (Nat.le_of_ble_eq_true rfl)
theorem q_222_9 : XX d 222 9 [v0, v1] (.int x :: st) A Q ↔ if x = w 0 then XX d 222 24 [v0, v1] st A Q else XX d 222 12 [v0, v1] st A Q := z_eq i_222_9 rfl rfl rfl
theorem q_222_12 : XX d 222 12 [some (.ref a), v1] st A Q ↔ XX d 222 13 [some (.ref a), v1] (.ref a :: st) A Q := c_lcl i_222_12 rfl rfl
theorem q_222_13 : XX d 222 13 [v0, some (.int x)] st A Q ↔ XX d 222 14 [v0, some (.int x)] (.int x :: st) A Q := c_lcl i_222_13 rfl rfl
theorem q_222_14 : XX (d + 1) 222 14 [v0, v1] [.int x1, .ref a0] (mk S I L R G) Q ↔ S a0 = some (.inr 12) ∧ XC d 221 [.ref a0, .int x1] (mk S I L R G) (XK (d + 1) 222 14 [v0, v1] [] Q) := c_callV i_222_14 rfl rfl rfl rfl (Nat.le_of_ble_eq_true rfl) (Nat.le_of_ble_eq_true rfl) rfl
theorem q_222_17 : XX d 222 17 [v0, v1] (.int x :: st) A Q ↔ if x = w 0 then XX d 222 24 [v0, v1] st A Q else XX d 222 20 [v0, v1] st A Q := z_eq i_222_17 rfl rfl rfl
theorem q_222_20 : XX d 222 20 [v0, v1] st A Q ↔ XX d 222 21 [v0, v1] (.int (w 1) :: st) A Q := c_stk i_222_20 rfl
theorem q_222_21 : XX d 222 21 [v0, v1] st A Q ↔ XX d 222 25 [v0, v1] st A Q := c_go i_222_21 rfl rfl
theorem q_222_24 : XX d 222 24 [v0, v1] st A Q ↔ XX d 222 25 [v0, v1] (.int (w 0) :: st) A Q := c_stk i_222_24 rfl
theorem q_222_25 : XX d 222 25 [v0, v1] [.int x] A Q ↔ (x = w 0 ∨ x = w 1) ∧ Q (.inl (some (.int x))) A := e_retZ i_222_25 rfl
theorem q_222_e : XC d 222 [.ref a0, .int x1] A Q ↔ XX d 222 0 [some (.ref a0), some (.int x1)] [] A Q := Iff.rfl
end

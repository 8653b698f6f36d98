/-! rows of methods 265 to 272 -/
section
variable {d : Nat} {Q : XO → Hp → Prop} {S : SH} {I : MI} {L : ML} {R : MR} {G : MG} {A : Hp} {st : List Value} {x y z x0 x1 x2 x3 x4 x5 x6 x7 x8 x9 : Int32} {lx ly l0 l1 l2 l3 l4 l5 l6 : Int64} {t kk jj a b a0 a1 a2 a3 a4 a5 a6 a7 a8 a9 : Nat} {o o0 o1 o2 o3 o4 : Option Nat} {v0 v1 v2 v3 v4 v5 v6 v7 v8 v9 v10 v11 v12 v13 v14 v15 v16 v17 v18 v19 v20 : Option Value}
theorem i_265_0 : t_ins 265 0 = some (.aload_n 3) := by decide +kernel
theorem i_265_1 : t_ins 265 1 = some (.iconst 0) := by decide +kernel
theorem i_265_2 : t_ins 265 2 = some (.aload_n 0) := by decide +kernel
theorem i_265_3 : t_ins 265 3 = some (.iload_n 1) := by decide +kernel
theorem i_265_4 : t_ins 265 4 = some (.iload_n 2) := by decide +kernel
theorem i_265_5 : t_ins 265 5 = some (.invokevirtual 92) := by decide +kernel
theorem i_265_8 : t_ins 265 8 = some (.i2l) := by decide +kernel
theorem i_265_9 : t_ins 265 9 = some (.lastore) := by decide +kernel
theorem i_265_10 : t_ins 265 10 = some (.goto 11) := by decide +kernel
theorem i_265_13 : t_ins 265 13 = some (.astore 4) := by decide +kernel
theorem i_265_15 : t_ins 265 15 = some (.iconst 1) := by decide +kernel
theorem i_265_16 : t_ins 265 16 = some (.ireturn) := by decide +kernel
theorem i_265_17 : t_ins 265 17 = some (.astore 4) := by decide +kernel
theorem i_265_19 : t_ins 265 19 = some (.iconst 2) := by decide +kernel
theorem i_265_20 : t_ins 265 20 = some (.ireturn) := by decide +kernel
theorem i_265_21 : t_ins 265 21 = some (.iconst 0) := by decide +kernel
theorem i_265_22 : t_ins 265 22 = some (.ireturn) := by decide +kernel
theorem q_265_0 : XX d 265 0 [v0, v1, v2, some (.ref a), v4] st A Q ↔ XX d 265 1 [v0, v1, v2, some (.ref a), v4] (.ref a :: st) A Q := c_lcl i_265_0 rfl rfl
theorem q_265_1 : XX d 265 1 [v0, v1, v2, v3, v4] st A Q ↔ XX d 265 2 [v0, v1, v2, v3, v4] (.int (w 0) :: st) A Q := c_stk i_265_1 rfl
theorem q_265_2 : XX d 265 2 [some (.ref a), v1, v2, v3, v4] st A Q ↔ XX d 265 3 [some (.ref a), v1, v2, v3, v4] (.ref a :: st) A Q := c_lcl i_265_2 rfl rfl
theorem q_265_3 : XX d 265 3 [v0, some (.int x), v2, v3, v4] st A Q ↔ XX d 265 4 [v0, some (.int x), v2, v3, v4] (.int x :: st) A Q := c_lcl i_265_3 rfl rfl
theorem q_265_4 : XX d 265 4 [v0, v1, some (.int x), v3, v4] st A Q ↔ XX d 265 5 [v0, v1, some (.int x), v3, v4] (.int x :: st) A Q := c_lcl i_265_4 rfl rfl
theorem q_265_5 : XX (d + 1) 265 5 [v0, v1, v2, v3, v4] [.int x2, .int x1, .ref a0, .int x3, .ref a4] (mk S I L R G) Q ↔ S a0 = some (.inr 11) ∧ XC d 137 [.ref a0, .int x1, .int x2] (mk S I L R G) (XK (d + 1) 265 5 [v0, v1, v2, v3, v4] [.int x3, .ref a4] Q) := c_callV i_265_5 rfl rfl rfl rfl (Nat.le_of_ble_eq_true rfl) (Nat.le_of_ble_eq_true rfl) rfl
theorem q_265_8 : XX d 265 8 [v0, v1, v2, v3, v4] (.int x :: st) A Q ↔ XX d 265 9 [v0, v1, v2, v3, v4] (.long x.toInt64 :: st) A Q := c_stk i_265_8 rfl
theorem q_265_9 : XX d 265 9 [v0, v1, v2, v3, v4] (.long ly :: .int x :: .ref a :: st) (mk S I L R G) Q ↔ inA (S a) ok_l x ∧ XX d 265 10 [v0, v1, v2, v3, v4] st (mk S I (wr L a (up (L a) (ix x) ly)) R G) Q := r_las i_265_9
theorem q_265_10 : XX d 265 10 [v0, v1, v2, v3, v4] st A Q ↔ XX d 265 21 [v0, v1, v2, v3, v4] st A Q := c_go i_265_10 rfl rfl
theorem q_265_13 : XX d 265 13 [v0, v1, v2, some (.ref b), v4] (.ref a :: st) A Q ↔ XX d 265 15 [v0, v1, v2, some (.ref b), some (.ref a)] st A Q := c_lcl i_265_13 rfl rfl
theorem q_265_15 : XX d 265 15 [v0, v1, v2, v3, v4] st A Q ↔ XX d 265 16 [v0, v1, v2, v3, v4] (.int (w 1) :: st) A Q := c_stk i_265_15 rfl
theorem q_265_16 : XX d 265 16 [v0, v1, v2, v3, v4] [.int x] A Q ↔ Q (.inl (some (.int x))) A := e_retI i_265_16 rfl
theorem q_265_17 : XX d 265 17 [v0, v1, v2, some (.ref b), v4] (.ref a :: st) A Q ↔ XX d 265 19 [v0, v1, v2, some (.ref b), some (.ref a)] st A Q := c_lcl i_265_17 rfl rfl
theorem q_265_19 : XX d 265 19 [v0, v1, v2, v3, v4] st A Q ↔ XX d 265 20 [v0, v1, v2, v3, v4] (.int (w 2) :: st) A Q := c_stk i_265_19 rfl
theorem q_265_20 : XX d 265 20 [v0, v1, v2, v3, v4] [.int x] A Q ↔ Q (.inl (some (.int x))) A := e_retI i_265_20 rfl
theorem q_265_21 : XX d 265 21 [v0, v1, v2, v3, v4] st A Q ↔ XX d 265 22 [v0, v1, v2, v3, v4] (.int (w 0) :: st) A Q := c_stk i_265_21 rfl
theorem q_265_22 : XX d 265 22 [v0, v1, v2, v3, v4] [.int x] A Q ↔ Q (.inl (some (.int x))) A := e_retI i_265_22 rfl
theorem q_265_e : XC d 265 [.ref a0, .int x1, .int x2, .ref a3] A Q ↔ XX d 265 0 [some (.ref a0), some (.int x1), some (.int x2), some (.ref a3), none] [] A Q := Iff.rfl
theorem i_266_0 : t_ins 266 0 = some (.aload_n 2) := by decide +kernel
theorem i_266_1 : t_ins 266 1 = some (.iconst 0) := by decide +kernel
theorem i_266_2 : t_ins 266 2 = some (.aload_n 0) := by decide +kernel
theorem i_266_3 : t_ins 266 3 = some (.iload_n 1) := by decide +kernel
theorem i_266_4 : t_ins 266 4 = some (.invokevirtual 95) := by decide +kernel
theorem i_266_7 : t_ins 266 7 = some (.i2l) := by decide +kernel
theorem i_266_8 : t_ins 266 8 = some (.lastore) := by decide +kernel
theorem i_266_9 : t_ins 266 9 = some (.goto 6) := by decide +kernel
theorem i_266_12 : t_ins 266 12 = some (.astore_n 3) := by decide +kernel
theorem i_266_13 : t_ins 266 13 = some (.iconst 1) := by decide +kernel
theorem i_266_14 : t_ins 266 14 = some (.ireturn) := by decide +kernel
theorem i_266_15 : t_ins 266 15 = some (.iconst 0) := by decide +kernel
theorem i_266_16 : t_ins 266 16 = some (.ireturn) := by decide +kernel
theorem q_266_0 : XX d 266 0 [v0, v1, some (.ref a), v3] st A Q ↔ XX d 266 1 [v0, v1, some (.ref a), v3] (.ref a :: st) A Q := c_lcl i_266_0 rfl rfl
theorem q_266_1 : XX d 266 1 [v0, v1, v2, v3] st A Q ↔ XX d 266 2 [v0, v1, v2, v3] (.int (w 0) :: st) A Q := c_stk i_266_1 rfl
theorem q_266_2 : XX d 266 2 [some (.ref a), v1, v2, v3] st A Q ↔ XX d 266 3 [some (.ref a), v1, v2, v3] (.ref a :: st) A Q := c_lcl i_266_2 rfl rfl
theorem q_266_3 : XX d 266 3 [v0, some (.int x), v2, v3] st A Q ↔ XX d 266 4 [v0, some (.int x), v2, v3] (.int x :: st) A Q := c_lcl i_266_3 rfl rfl
theorem q_266_4 : XX (d + 1) 266 4 [v0, v1, v2, v3] [.int x1, .ref a0, .int x2, .ref a3] (mk S I L R G) Q ↔ S a0 = some (.inr 11) ∧ XC d 138 [.ref a0, .int x1] (mk S I L R G) (XK (d + 1) 266 4 [v0, v1, v2, v3] [.int x2, .ref a3] Q) := c_callV i_266_4 rfl rfl rfl rfl (Nat.le_of_ble_eq_true rfl) (Nat.le_of_ble_eq_true rfl) rfl
theorem q_266_7 : XX d 266 7 [v0, v1, v2, v3] (.int x :: st) A Q ↔ XX d 266 8 [v0, v1, v2, v3] (.long x.toInt64 :: st) A Q := c_stk i_266_7 rfl
theorem q_266_8 : XX d 266 8 [v0, v1, v2, v3] (.long ly :: .int x :: .ref a :: st) (mk S I L R G) Q ↔ inA (S a) ok_l x ∧ XX d 266 9 [v0, v1, v2, v3] st (mk S I (wr L a (up (L a) (ix x) ly)) R G) Q := r_las i_266_8
theorem q_266_9 : XX d 266 9 [v0, v1, v2, v3] st A Q ↔ XX d 266 15 [v0, v1, v2, v3] st A Q := c_go i_266_9 rfl rfl
theorem q_266_12 : XX d 266 12 [v0, v1, some (.ref b), v3] (.ref a :: st) A Q ↔ XX d 266 13 [v0, v1, some (.ref b), some (.ref a)] st A Q := c_lcl i_266_12 rfl rfl
theorem q_266_13 : XX d 266 13 [v0, v1, v2, v3] st A Q ↔ XX d 266 14 [v0, v1, v2, v3] (.int (w 1) :: st) A Q := c_stk i_266_13 rfl
theorem q_266_14 : XX d 266 14 [v0, v1, v2, v3] [.int x] A Q ↔ Q (.inl (some (.int x))) A := e_retI i_266_14 rfl
theorem q_266_15 : XX d 266 15 [v0, v1, v2, v3] st A Q ↔ XX d 266 16 [v0, v1, v2, v3] (.int (w 0) :: st) A Q := c_stk i_266_15 rfl
theorem q_266_16 : XX d 266 16 [v0, v1, v2, v3] [.int x] A Q ↔ Q (.inl (some (.int x))) A := e_retI i_266_16 rfl
theorem q_266_e : XC d 266 [.ref a0, .int x1, .ref a2] A Q ↔ XX d 266 0 [some (.ref a0), some (.int x1), some (.ref a2), none] [] A Q := Iff.rfl
theorem i_267_0 : t_ins 267 0 = some (.aload_n 2) := by decide +kernel
theorem i_267_1 : t_ins 267 1 = some (.iconst 0) := by decide +kernel
theorem i_267_2 : t_ins 267 2 = some (.aload_n 0) := by decide +kernel
theorem i_267_3 : t_ins 267 3 = some (.iload_n 1) := by decide +kernel
theorem i_267_4 : t_ins 267 4 = some (.invokevirtual 98) := by decide +kernel
theorem i_267_7 : t_ins 267 7 = some (.lastore) := by decide +kernel
theorem i_267_8 : t_ins 267 8 = some (.goto 6) := by decide +kernel
theorem i_267_11 : t_ins 267 11 = some (.astore_n 3) := by decide +kernel
theorem i_267_12 : t_ins 267 12 = some (.iconst 1) := by decide +kernel
theorem i_267_13 : t_ins 267 13 = some (.ireturn) := by decide +kernel
theorem i_267_14 : t_ins 267 14 = some (.iconst 0) := by decide +kernel
theorem i_267_15 : t_ins 267 15 = some (.ireturn) := by decide +kernel
theorem q_267_0 : XX d 267 0 [v0, v1, some (.ref a), v3] st A Q ↔ XX d 267 1 [v0, v1, some (.ref a), v3] (.ref a :: st) A Q := c_lcl i_267_0 rfl rfl
theorem q_267_1 : XX d 267 1 [v0, v1, v2, v3] st A Q ↔ XX d 267 2 [v0, v1, v2, v3] (.int (w 0) :: st) A Q := c_stk i_267_1 rfl
theorem q_267_2 : XX d 267 2 [some (.ref a), v1, v2, v3] st A Q ↔ XX d 267 3 [some (.ref a), v1, v2, v3] (.ref a :: st) A Q := c_lcl i_267_2 rfl rfl
theorem q_267_3 : XX d 267 3 [v0, some (.int x), v2, v3] st A Q ↔ XX d 267 4 [v0, some (.int x), v2, v3] (.int x :: st) A Q := c_lcl i_267_3 rfl rfl
theorem q_267_4 : XX (d + 1) 267 4 [v0, v1, v2, v3] [.int x1, .ref a0, .int x2, .ref a3] (mk S I L R G) Q ↔ S a0 = some (.inr 11) ∧ XC d 139 [.ref a0, .int x1] (mk S I L R G) (XK (d + 1) 267 4 [v0, v1, v2, v3] [.int x2, .ref a3] Q) := c_callV i_267_4 rfl rfl rfl rfl (Nat.le_of_ble_eq_true rfl) (Nat.le_of_ble_eq_true rfl) rfl
theorem q_267_7 : XX d 267 7 [v0, v1, v2, v3] (.long ly :: .int x :: .ref a :: st) (mk S I L R G) Q ↔ inA (S a) ok_l x ∧ XX d 267 8 [v0, v1, v2, v3] st (mk S I (wr L a (up (L a) (ix x) ly)) R G) Q := r_las i_267_7
theorem q_267_8 : XX d 267 8 [v0, v1, v2, v3] st A Q ↔ XX d 267 14 [v0, v1, v2, v3] st A Q := c_go i_267_8 rfl rfl
theorem q_267_11 : XX d 267 11 [v0, v1, some (.ref b), v3] (.ref a :: st) A Q ↔ XX d 267 12 [v0, v1, some (.ref b), some (.ref a)] st A Q := c_lcl i_267_11 rfl rfl
theorem q_267_12 : XX d 267 12 [v0, v1, v2, v3] st A Q ↔ XX d 267 13 [v0, v1, v2, v3] (.int (w 1) :: st) A Q := c_stk i_267_12 rfl
theorem q_267_13 : XX d 267 13 [v0, v1, v2, v3] [.int x] A Q ↔ Q (.inl (some (.int x))) A := e_retI i_267_13 rfl
theorem q_267_14 : XX d 267 14 [v0, v1, v2, v3] st A Q ↔ XX d 267 15 [v0, v1, v2, v3] (.int (w 0) :: st) A Q := c_stk i_267_14 rfl
theorem q_267_15 : XX d 267 15 [v0, v1, v2, v3] [.int x] A Q ↔ Q (.inl (some (.int x))) A := e_retI i_267_15 rfl
theorem q_267_e : XC d 267 [.ref a0, .int x1, .ref a2] A Q ↔ XX d 267 0 [some (.ref a0), some (.int x1), some (.ref a2), none] [] A Q := Iff.rfl
theorem i_269_0 : t_ins 269 0 = some (.iconst 0) := by decide +kernel
theorem i_269_1 : t_ins 269 1 = some (.istore_n 2) := by decide +kernel
theorem i_269_2 : t_ins 269 2 = some (.aload_n 0) := by decide +kernel
theorem i_269_3 : t_ins 269 3 = some (.arraylength) := by decide +kernel
theorem i_269_4 : t_ins 269 4 = some (.istore_n 3) := by decide +kernel
theorem i_269_5 : t_ins 269 5 = some (.iload_n 2) := by decide +kernel
theorem i_269_6 : t_ins 269 6 = some (.iload_n 3) := by decide +kernel
theorem i_269_7 : t_ins 269 7 = some (.if_icmp .ge 13) := by decide +kernel
theorem i_269_10 : t_ins 269 10 = some (.aload_n 0) := by decide +kernel
theorem i_269_11 : t_ins 269 11 = some (.iload_n 2) := by decide +kernel
theorem i_269_12 : t_ins 269 12 = some (.iload_n 1) := by decide +kernel
theorem i_269_13 : t_ins 269 13 = some (.iastore) := by decide +kernel
theorem i_269_14 : t_ins 269 14 = some (.iinc 2 1) := by decide +kernel
theorem i_269_17 : t_ins 269 17 = some (.goto (-12)) := by decide +kernel
theorem i_269_20 : t_ins 269 20 = some (.return_) := by decide +kernel
theorem q_269_0 : XX d 269 0 [v0, v1, v2, v3] st A Q ↔ XX d 269 1 [v0, v1, v2, v3] (.int (w 0) :: st) A Q := c_stk i_269_0 rfl
theorem q_269_1 : XX d 269 1 [v0, some (.int z), v2, v3] (.int x :: st) A Q ↔ XX d 269 2 [v0, some (.int z), some (.int x), v3] st A Q := c_lcl i_269_1 rfl rfl
theorem q_269_2 : XX d 269 2 [some (.ref a), v1, v2, v3] st A Q ↔ XX d 269 3 [some (.ref a), v1, v2, v3] (.ref a :: st) A Q := c_lcl i_269_2 rfl rfl
theorem q_269_3 : XX d 269 3 [v0, v1, v2, v3] (.ref a :: st) (mk S I L R G) Q ↔ alP (S a) (fun n => XX d 269 4 [v0, v1, v2, v3] (.int n :: st) (mk S I L R G) Q) := r_al i_269_3
theorem q_269_4 : XX d 269 4 [v0, v1, some (.int z), v3] (.int x :: st) A Q ↔ XX d 269 5 [v0, v1, some (.int z), some (.int x)] st A Q := c_lcl i_269_4 rfl rfl
theorem q_269_5 : XX d 269 5 [v0, v1, some (.int x), v3] st A Q ↔ XX d 269 6 [v0, v1, some (.int x), v3] (.int x :: st) A Q := c_lcl i_269_5 rfl rfl
theorem q_269_6 : XX d 269 6 [v0, v1, v2, some (.int x)] st A Q ↔ XX d 269 7 [v0, v1, v2, some (.int x)] (.int x :: st) A Q := c_lcl i_269_6 rfl rfl
theorem q_269_7 : XX d 269 7 [v0, v1, v2, v3] (.int y :: .int x :: st) A Q ↔ if x < y then XX d 269 10 [v0, v1, v2, v3] st A Q else XX d 269 20 [v0, v1, v2, v3] st A Q := b_ge i_269_7 rfl rfl rfl
theorem q_269_10 : XX d 269 10 [some (.ref a), v1, v2, v3] st A Q ↔ XX d 269 11 [some (.ref a), v1, v2, v3] (.ref a :: st) A Q := c_lcl i_269_10 rfl rfl
theorem q_269_11 : XX d 269 11 [v0, v1, some (.int x), v3] st A Q ↔ XX d 269 12 [v0, v1, some (.int x), v3] (.int x :: st) A Q := c_lcl i_269_11 rfl rfl
theorem q_269_12 : XX d 269 12 [v0, some (.int x), v2, v3] st A Q ↔ XX d 269 13 [v0, some (.int x), v2, v3] (.int x :: st) A Q := c_lcl i_269_12 rfl rfl
theorem q_269_13 : XX d 269 13 [v0, v1, v2, v3] (.int y :: .int x :: .ref a :: st) (mk S I L R G) Q ↔ inA (S a) ok_0 x ∧ XX d 269 14 [v0, v1, v2, v3] st (mk S (wr I a (up (I a) (ix x) y)) L R G) Q := r_ias i_269_13
theorem q_269_14 : XX d 269 14 [v0, some (.int z), some (.int x), v3] st A Q ↔ XX d 269 17 [v0, some (.int z), some (.int (x + w 1)), v3] st A Q := c_lcl i_269_14 rfl rfl
theorem q_269_17 : XX d 269 17 [v0, v1, v2, v3] st A Q ↔ XX d 269 5 [v0, v1, v2, v3] st A Q := c_go i_269_17 rfl rfl
theorem q_269_20 : XX d 269 20 [v0, v1, v2, v3] [] A Q ↔ Q (.inl none) A := e_retN i_269_20 rfl
theorem q_269_e : XC d 269 [.ref a0, .int x1] A Q ↔ XX d 269 0 [some (.ref a0), some (.int x1), none, none] [] A Q := Iff.rfl
theorem i_270_0 : t_ins 270 0 = some (.iload_n 1) := by decide +kernel
theorem i_270_1 : t_ins 270 1 = some (.aload_n 0) := by decide +kernel
theorem i_270_2 : t_ins 270 2 = some (.arraylength) := by decide +kernel
theorem i_270_3 : t_ins 270 3 = some (.if_icmp .ne 11) := by decide +kernel
theorem i_270_6 : t_ins 270 6 = some (.aload_n 0) := by decide +kernel
theorem i_270_7 : t_ins 270 7 = some (.invokevirtual 316) := by decide +kernel
theorem i_270_10 : t_ins 270 10 = some (.checkcast 317) := by decide +kernel
theorem i_270_13 : t_ins 270 13 = some (.areturn) := by decide +kernel
theorem i_270_14 : t_ins 270 14 = some (.iload_n 1) := by decide +kernel
theorem i_270_15 : t_ins 270 15 = some (.newarray .int) := by decide +kernel
theorem i_270_17 : t_ins 270 17 = some (.astore_n 2) := by decide +kernel
theorem i_270_18 : t_ins 270 18 = some (.aload_n 0) := by decide +kernel
theorem i_270_19 : t_ins 270 19 = some (.iconst 0) := by decide +kernel
theorem i_270_20 : t_ins 270 20 = some (.aload_n 2) := by decide +kernel
theorem i_270_21 : t_ins 270 21 = some (.iconst 0) := by decide +kernel
theorem i_270_22 : t_ins 270 22 = some (.aload_n 0) := by decide +kernel
theorem i_270_23 : t_ins 270 23 = some (.arraylength) := by decide +kernel
theorem i_270_24 : t_ins 270 24 = some (.iload_n 1) := by decide +kernel
theorem i_270_25 : t_ins 270 25 = some (.invokestatic 304) := by decide +kernel
theorem i_270_28 : t_ins 270 28 = some (.invokestatic 150) := by decide +kernel
theorem i_270_31 : t_ins 270 31 = some (.aload_n 2) := by decide +kernel
theorem i_270_32 : t_ins 270 32 = some (.areturn) := by decide +kernel
theorem q_270_0 : XX d 270 0 [v0, some (.int x), v2] st A Q ↔ XX d 270 1 [v0, some (.int x), v2] (.int x :: st) A Q := c_lcl i_270_0 rfl rfl
theorem q_270_1 : XX d 270 1 [some (.ref a), v1, v2] st A Q ↔ XX d 270 2 [some (.ref a), v1, v2] (.ref a :: st) A Q := c_lcl i_270_1 rfl rfl
theorem q_270_2 : XX d 270 2 [v0, v1, v2] (.ref a :: st) (mk S I L R G) Q ↔ alP (S a) (fun n => XX d 270 3 [v0, v1, v2] (.int n :: st) (mk S I L R G) Q) := r_al i_270_2
theorem q_270_3 : XX d 270 3 [v0, v1, v2] (.int y :: .int x :: st) A Q ↔ if x = y then XX d 270 6 [v0, v1, v2] st A Q else XX d 270 14 [v0, v1, v2] st A Q := b_ne i_270_3 rfl rfl rfl
theorem q_270_6 : XX d 270 6 [some (.ref a), v1, v2] st A Q ↔ XX d 270 7 [some (.ref a), v1, v2] (.ref a :: st) A Q := c_lcl i_270_6 rfl rfl
theorem q_270_13 : XX d 270 13 [v0, v1, v2] [.ref a] A Q ↔ Q (.inl (some (.ref a))) A := e_retA i_270_13 rfl
theorem q_270_14 : XX d 270 14 [v0, some (.int x), v2] st A Q ↔ XX d 270 15 [v0, some (.int x), v2] (.int x :: st) A Q := c_lcl i_270_14 rfl rfl
theorem q_270_17 : XX d 270 17 [v0, some (.int z), v2] (.ref a :: st) A Q ↔ XX d 270 18 [v0, some (.int z), some (.ref a)] st A Q := c_lcl i_270_17 rfl rfl
theorem q_270_18 : XX d 270 18 [some (.ref a), v1, v2] st A Q ↔ XX d 270 19 [some (.ref a), v1, v2] (.ref a :: st) A Q := c_lcl i_270_18 rfl rfl
theorem q_270_19 : XX d 270 19 [v0, v1, v2] st A Q ↔ XX d 270 20 [v0, v1, v2] (.int (w 0) :: st) A Q := c_stk i_270_19 rfl
theorem q_270_20 : XX d 270 20 [v0, v1, some (.ref a)] st A Q ↔ XX d 270 21 [v0, v1, some (.ref a)] (.ref a :: st) A Q := c_lcl i_270_20 rfl rfl
theorem q_270_21 : XX d 270 21 [v0, v1, v2] st A Q ↔ XX d 270 22 [v0, v1, v2] (.int (w 0) :: st) A Q := c_stk i_270_21 rfl
theorem q_270_22 : XX d 270 22 [some (.ref a), v1, v2] st A Q ↔ XX d 270 23 [some (.ref a), v1, v2] (.ref a :: st) A Q := c_lcl i_270_22 rfl rfl
theorem q_270_23 : XX d 270 23 [v0, v1, v2] (.ref a :: st) (mk S I L R G) Q ↔ alP (S a) (fun n => XX d 270 24 [v0, v1, v2] (.int n :: st) (mk S I L R G) Q) := r_al i_270_23
theorem q_270_24 : XX d 270 24 [v0, some (.int x), v2] st A Q ↔ XX d 270 25 [v0, some (.int x), v2] (.int x :: st) A Q := c_lcl i_270_24 rfl rfl
theorem q_270_25 : XX d 270 25 [v0, v1, v2] [.int y, .int x, .int x0, .ref a1, .int x2, .ref a3] A Q ↔ XX d 270 28 [v0, v1, v2] [.int (if y < x then y else x), .int x0, .ref a1, .int x2, .ref a3] A Q := r_min i_270_25 rfl rfl (Nat.le_of_ble_eq_true rfl)
theorem q_270_31 : XX d 270 31 [v0, v1, some (.ref a)] st A Q ↔ XX d 270 32 [v0, v1, some (.ref a)] (.ref a :: st) A Q := c_lcl i_270_31 rfl rfl
theorem q_270_32 : XX d 270 32 [v0, v1, v2] [.ref a] A Q ↔ Q (.inl (some (.ref a))) A := e_retA i_270_32 rfl
theorem q_270_e : XC d 270 [.ref a0, .int x1] A Q ↔ XX d 270 0 [some (.ref a0), some (.int x1), none] [] A Q := Iff.rfl
theorem i_271_0 : t_ins 271 0 = some (.iload_n 1) := by decide +kernel
theorem i_271_1 : t_ins 271 1 = some (.aload_n 0) := by decide +kernel
theorem i_271_2 : t_ins 271 2 = some (.arraylength) := by decide +kernel
theorem i_271_3 : t_ins 271 3 = some (.if_icmp .ne 11) := by decide +kernel
theorem i_271_6 : t_ins 271 6 = some (.aload_n 0) := by decide +kernel
theorem i_271_7 : t_ins 271 7 = some (.invokevirtual 319) := by decide +kernel
theorem i_271_10 : t_ins 271 10 = some (.checkcast 320) := by decide +kernel
theorem i_271_13 : t_ins 271 13 = some (.areturn) := by decide +kernel
theorem i_271_14 : t_ins 271 14 = some (.iload_n 1) := by decide +kernel
theorem i_271_15 : t_ins 271 15 = some (.newarray .long) := by decide +kernel
theorem i_271_17 : t_ins 271 17 = some (.astore_n 2) := by decide +kernel
theorem i_271_18 : t_ins 271 18 = some (.aload_n 0) := by decide +kernel
theorem i_271_19 : t_ins 271 19 = some (.iconst 0) := by decide +kernel
theorem i_271_20 : t_ins 271 20 = some (.aload_n 2) := by decide +kernel
theorem i_271_21 : t_ins 271 21 = some (.iconst 0) := by decide +kernel
theorem i_271_22 : t_ins 271 22 = some (.aload_n 0) := by decide +kernel
theorem i_271_23 : t_ins 271 23 = some (.arraylength) := by decide +kernel
theorem i_271_24 : t_ins 271 24 = some (.iload_n 1) := by decide +kernel
theorem i_271_25 : t_ins 271 25 = some (.invokestatic 304) := by decide +kernel
theorem i_271_28 : t_ins 271 28 = some (.invokestatic 150) := by decide +kernel
theorem i_271_31 : t_ins 271 31 = some (.aload_n 2) := by decide +kernel
theorem i_271_32 : t_ins 271 32 = some (.areturn) := by decide +kernel
theorem q_271_0 : XX d 271 0 [v0, some (.int x), v2] st A Q ↔ XX d 271 1 [v0, some (.int x), v2] (.int x :: st) A Q := c_lcl i_271_0 rfl rfl
theorem q_271_1 : XX d 271 1 [some (.ref a), v1, v2] st A Q ↔ XX d 271 2 [some (.ref a), v1, v2] (.ref a :: st) A Q := c_lcl i_271_1 rfl rfl
theorem q_271_2 : XX d 271 2 [v0, v1, v2] (.ref a :: st) (mk S I L R G) Q ↔ alP (S a) (fun n => XX d 271 3 [v0, v1, v2] (.int n :: st) (mk S I L R G) Q) := r_al i_271_2
theorem q_271_3 : XX d 271 3 [v0, v1, v2] (.int y :: .int x :: st) A Q ↔ if x = y then XX d 271 6 [v0, v1, v2] st A Q else XX d 271 14 [v0, v1, v2] st A Q := b_ne i_271_3 rfl rfl rfl
theorem q_271_6 : XX d 271 6 [some (.ref a), v1, v2] st A Q ↔ XX d 271 7 [some (.ref a), v1, v2] (.ref a :: st) A Q := c_lcl i_271_6 rfl rfl
theorem q_271_13 : XX d 271 13 [v0, v1, v2] [.ref a] A Q ↔ Q (.inl (some (.ref a))) A := e_retA i_271_13 rfl
theorem q_271_14 : XX d 271 14 [v0, some (.int x), v2] st A Q ↔ XX d 271 15 [v0, some (.int x), v2] (.int x :: st) A Q := c_lcl i_271_14 rfl rfl
theorem q_271_17 : XX d 271 17 [v0, some (.int z), v2] (.ref a :: st) A Q ↔ XX d 271 18 [v0, some (.int z), some (.ref a)] st A Q := c_lcl i_271_17 rfl rfl
theorem q_271_18 : XX d 271 18 [some (.ref a), v1, v2] st A Q ↔ XX d 271 19 [some (.ref a), v1, v2] (.ref a :: st) A Q := c_lcl i_271_18 rfl rfl
theorem q_271_19 : XX d 271 19 [v0, v1, v2] st A Q ↔ XX d 271 20 [v0, v1, v2] (.int (w 0) :: st) A Q := c_stk i_271_19 rfl
theorem q_271_20 : XX d 271 20 [v0, v1, some (.ref a)] st A Q ↔ XX d 271 21 [v0, v1, some (.ref a)] (.ref a :: st) A Q := c_lcl i_271_20 rfl rfl
theorem q_271_21 : XX d 271 21 [v0, v1, v2] st A Q ↔ XX d 271 22 [v0, v1, v2] (.int (w 0) :: st) A Q := c_stk i_271_21 rfl
theorem q_271_22 : XX d 271 22 [some (.ref a), v1, v2] st A Q ↔ XX d 271 23 [some (.ref a), v1, v2] (.ref a :: st) A Q := c_lcl i_271_22 rfl rfl
theorem q_271_23 : XX d 271 23 [v0, v1, v2] (.ref a :: st) (mk S I L R G) Q ↔ alP (S a) (fun n => XX d 271 24 [v0, v1, v2] (.int n :: st) (mk S I L R G) Q) := r_al i_271_23
theorem q_271_24 : XX d 271 24 [v0, some (.int x), v2] st A Q ↔ XX d 271 25 [v0, some (.int x), v2] (.int x :: st) A Q := c_lcl i_271_24 rfl rfl
theorem q_271_25 : XX d 271 25 [v0, v1, v2] [.int y, .int x, .int x0, .ref a1, .int x2, .ref a3] A Q ↔ XX d 271 28 [v0, v1, v2] [.int (if y < x then y else x), .int x0, .ref a1, .int x2, .ref a3] A Q := r_min i_271_25 rfl rfl (Nat.le_of_ble_eq_true rfl)
theorem q_271_31 : XX d 271 31 [v0, v1, some (.ref a)] st A Q ↔ XX d 271 32 [v0, v1, some (.ref a)] (.ref a :: st) A Q := c_lcl i_271_31 rfl rfl
theorem q_271_32 : XX d 271 32 [v0, v1, v2] [.ref a] A Q ↔ Q (.inl (some (.ref a))) A := e_retA i_271_32 rfl
theorem q_271_e : XC d 271 [.ref a0, .int x1] A Q ↔ XX d 271 0 [some (.ref a0), some (.int x1), none] [] A Q := Iff.rfl
theorem i_272_0 : t_ins 272 0 = some (.iload_n 1) := by decide +kernel
theorem i_272_1 : t_ins 272 1 = some (.ifCond .lt 21) := by decide +kernel
theorem i_272_4 : t_ins 272 4 = some (.iload_n 1) := by decide +kernel
theorem i_272_5 : t_ins 272 5 = some (.aload_n 0) := by decide +kernel
theorem i_272_6 : t_ins 272 6 = some (.getfield 11) := by decide +kernel
theorem i_272_9 : t_ins 272 9 = some (.arraylength) := by decide +kernel
theorem i_272_10 : t_ins 272 10 = some (.if_icmp .ge 12) := by decide +kernel
theorem i_272_13 : t_ins 272 13 = some (.aload_n 0) := by decide +kernel
theorem i_272_14 : t_ins 272 14 = some (.getfield 11) := by decide +kernel
theorem i_272_17 : t_ins 272 17 = some (.iload_n 1) := by decide +kernel
theorem i_272_18 : t_ins 272 18 = some (.aaload) := by decide +kernel
theorem i_272_19 : t_ins 272 19 = some (.goto 4) := by decide +kernel
theorem i_272_22 : t_ins 272 22 = some (.aconst_null) := by decide +kernel
theorem i_272_23 : t_ins 272 23 = some (.areturn) := by decide +kernel
theorem q_272_0 : XX d 272 0 [v0, some (.int x)] st A Q ↔ XX d 272 1 [v0, some (.int x)] (.int x :: st) A Q := c_lcl i_272_0 rfl rfl
theorem q_272_1 : XX d 272 1 [v0, v1] (.int x :: st) A Q ↔ if x < w 0 then XX d 272 22 [v0, v1] st A Q else XX d 272 4 [v0, v1] st A Q := z_lt i_272_1 rfl rfl rfl
theorem q_272_4 : XX d 272 4 [v0, some (.int x)] st A Q ↔ XX d 272 5 [v0, some (.int x)] (.int x :: st) A Q := c_lcl i_272_4 rfl rfl
theorem q_272_5 : XX d 272 5 [some (.ref a), v1] st A Q ↔ XX d 272 6 [some (.ref a), v1] (.ref a :: st) A Q := c_lcl i_272_5 rfl rfl
theorem q_272_6 : XX d 272 6 [v0, v1] (.ref a :: st) (mk S I L R G) Q ↔ S a = some (.inr 3) ∧ XX d 272 9 [v0, v1] (.ref (a + 1) :: st) (mk S I L R G) Q := r_gf i_272_6 rfl (by decide) rfl
theorem q_272_9 : XX d 272 9 [v0, v1] (.ref a :: st) (mk S I L R G) Q ↔ alP (S a) (fun n => XX d 272 10 [v0, v1] (.int n :: st) (mk S I L R G) Q) := r_al i_272_9
theorem q_272_10 : XX d 272 10 [v0, v1] (.int y :: .int x :: st) A Q ↔ if x < y then XX d 272 13 [v0, v1] st A Q else XX d 272 22 [v0, v1] st A Q := b_ge i_272_10 rfl rfl rfl
theorem q_272_13 : XX d 272 13 [some (.ref a), v1] st A Q ↔ XX d 272 14 [some (.ref a), v1] (.ref a :: st) A Q := c_lcl i_272_13 rfl rfl
theorem q_272_14 : XX d 272 14 [v0, v1] (.ref a :: st) (mk S I L R G) Q ↔ S a = some (.inr 3) ∧ XX d 272 17 [v0, v1] (.ref (a + 1) :: st) (mk S I L R G) Q := r_gf i_272_14 rfl (by decide) rfl
theorem q_272_17 : XX d 272 17 [v0, some (.int x)] st A Q ↔ XX d 272 18 [v0, some (.int x)] (.int x :: st) A Q := c_lcl i_272_17 rfl rfl
theorem q_272_18 : XX d 272 18 [v0, v1] (.int x :: .ref a :: st) (mk S I L R G) Q ↔ inA (S a) ok_q x ∧ XX d 272 19 [v0, v1] (va_rf (R a (ix x)) :: st) (mk S I L R G) Q := r_aq i_272_18
theorem q_272_19 : XX d 272 19 [v0, v1] st A Q ↔ XX d 272 23 [v0, v1] st A Q := c_go i_272_19 rfl rfl
theorem q_272_22 : XX d 272 22 [v0, v1] st A Q ↔ XX d 272 23 [v0, v1] (.null :: st) A Q := c_stk i_272_22 rfl
theorem q_272_23 : XX d 272 23 [v0, v1] [.ref a] A Q ↔ Q (.inl (some (.ref a))) A := e_retA i_272_23 rfl
theorem q_272_23o : XX d 272 23 [v0, v1] [va_rf o] A Q ↔ Q (.inl (some (va_rf o))) A := e_retO i_272_23 rfl
theorem q_272_e : XC d 272 [.ref a0, .int x1] A Q ↔ XX d 272 0 [some (.ref a0), some (.int x1)] [] A Q := Iff.rfl
end

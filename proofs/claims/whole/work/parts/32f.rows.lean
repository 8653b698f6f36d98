/-! rows of methods 126 to 151 -/
section
variable {d : Nat} {Q : XO → Hp → Prop} {S : SH} {I : MI} {L : ML} {R : MR} {G : MG} {A : Hp} {st : List Value} {x y z x0 x1 x2 x3 x4 x5 x6 x7 x8 x9 : Int32} {lx ly l0 l1 l2 l3 l4 l5 l6 : Int64} {t kk jj a b a0 a1 a2 a3 a4 a5 a6 a7 a8 a9 : Nat} {o o0 o1 o2 o3 o4 : Option Nat} {v0 v1 v2 v3 v4 v5 v6 v7 v8 v9 v10 v11 v12 v13 v14 v15 v16 v17 v18 v19 v20 : Option Value}
theorem i_126_0 : t_ins 126 0 = some (.aload_n 0) := by decide +kernel
theorem i_126_1 : t_ins 126 1 = some (.iload_n 1) := by decide +kernel
theorem i_126_2 : t_ins 126 2 = some (.invokevirtual 206) := by decide +kernel
theorem i_126_5 : t_ins 126 5 = some (.aload_n 0) := by decide +kernel
theorem i_126_6 : t_ins 126 6 = some (.iload_n 2) := by decide +kernel
theorem i_126_7 : t_ins 126 7 = some (.iconst 0) := by decide +kernel
theorem i_126_8 : t_ins 126 8 = some (.aload_n 0) := by decide +kernel
theorem i_126_9 : t_ins 126 9 = some (.getfield 12) := by decide +kernel
theorem i_126_12 : t_ins 126 12 = some (.getfield 82) := by decide +kernel
theorem i_126_15 : t_ins 126 15 = some (.invokevirtual 89) := by decide +kernel
theorem i_126_18 : t_ins 126 18 = some (.aload_n 0) := by decide +kernel
theorem i_126_19 : t_ins 126 19 = some (.iload_n 3) := by decide +kernel
theorem i_126_20 : t_ins 126 20 = some (.iconst 0) := by decide +kernel
theorem i_126_21 : t_ins 126 21 = some (.iconst 2) := by decide +kernel
theorem i_126_22 : t_ins 126 22 = some (.invokevirtual 89) := by decide +kernel
theorem i_126_25 : t_ins 126 25 = some (.aload_n 0) := by decide +kernel
theorem i_126_26 : t_ins 126 26 = some (.iload_n 1) := by decide +kernel
theorem i_126_27 : t_ins 126 27 = some (.invokevirtual 166) := by decide +kernel
theorem i_126_30 : t_ins 126 30 = some (.aload_n 0) := by decide +kernel
theorem i_126_31 : t_ins 126 31 = some (.getfield 19) := by decide +kernel
theorem i_126_34 : t_ins 126 34 = some (.getfield 137) := by decide +kernel
theorem i_126_37 : t_ins 126 37 = some (.invokevirtual 250) := by decide +kernel
theorem i_126_40 : t_ins 126 40 = some (.astore 4) := by decide +kernel
theorem i_126_42 : t_ins 126 42 = some (.aload 4) := by decide +kernel
theorem i_126_44 : t_ins 126 44 = some (.aload_n 0) := by decide +kernel
theorem i_126_45 : t_ins 126 45 = some (.getfield 12) := by decide +kernel
theorem i_126_48 : t_ins 126 48 = some (.getfield 97) := by decide +kernel
theorem i_126_51 : t_ins 126 51 = some (.iconst 0) := by decide +kernel
theorem i_126_52 : t_ins 126 52 = some (.iload_n 2) := by decide +kernel
theorem i_126_53 : t_ins 126 53 = some (.invokevirtual 268) := by decide +kernel
theorem i_126_56 : t_ins 126 56 = some (.istore 5) := by decide +kernel
theorem i_126_58 : t_ins 126 58 = some (.iload_n 3) := by decide +kernel
theorem i_126_59 : t_ins 126 59 = some (.lookupswitch 34 #[(0, 25), (1, 28)]) := by decide +kernel
theorem i_126_84 : t_ins 126 84 = some (.iload 5) := by decide +kernel
theorem i_126_86 : t_ins 126 86 = some (.ireturn) := by decide +kernel
theorem i_126_87 : t_ins 126 87 = some (.aload 4) := by decide +kernel
theorem i_126_89 : t_ins 126 89 = some (.invokevirtual 272) := by decide +kernel
theorem i_126_92 : t_ins 126 92 = some (.ireturn) := by decide +kernel
theorem i_126_93 : t_ins 126 93 = some (.aload 4) := by decide +kernel
theorem i_126_95 : t_ins 126 95 = some (.invokevirtual 275) := by decide +kernel
theorem i_126_98 : t_ins 126 98 = some (.ireturn) := by decide +kernel
theorem q_126_0 : XX d 126 0 [some (.ref a), v1, v2, v3, v4, v5] st A Q ↔ XX d 126 1 [some (.ref a), v1, v2, v3, v4, v5] (.ref a :: st) A Q := c_lcl i_126_0 rfl rfl
theorem q_126_1 : XX d 126 1 [v0, some (.int x), v2, v3, v4, v5] st A Q ↔ XX d 126 2 [v0, some (.int x), v2, v3, v4, v5] (.int x :: st) A Q := c_lcl i_126_1 rfl rfl
theorem q_126_2 : XX (d + 1) 126 2 [v0, v1, v2, v3, v4, v5] [.int x1, .ref a0] (mk S I L R G) Q ↔ S a0 = some (.inr 11) ∧ XC d 143 [.ref a0, .int x1] (mk S I L R G) (XK (d + 1) 126 2 [v0, v1, v2, v3, v4, v5] [] Q) := c_callV i_126_2 rfl rfl rfl rfl (Nat.le_of_ble_eq_true rfl) (Nat.le_of_ble_eq_true rfl) rfl
theorem q_126_5 : XX d 126 5 [some (.ref a), v1, v2, v3, v4, v5] st A Q ↔ XX d 126 6 [some (.ref a), v1, v2, v3, v4, v5] (.ref a :: st) A Q := c_lcl i_126_5 rfl rfl
theorem q_126_6 : XX d 126 6 [v0, v1, some (.int x), v3, v4, v5] st A Q ↔ XX d 126 7 [v0, v1, some (.int x), v3, v4, v5] (.int x :: st) A Q := c_lcl i_126_6 rfl rfl
theorem q_126_7 : XX d 126 7 [v0, v1, v2, v3, v4, v5] st A Q ↔ XX d 126 8 [v0, v1, v2, v3, v4, v5] (.int (w 0) :: st) A Q := c_stk i_126_7 rfl
theorem q_126_8 : XX d 126 8 [some (.ref a), v1, v2, v3, v4, v5] st A Q ↔ XX d 126 9 [some (.ref a), v1, v2, v3, v4, v5] (.ref a :: st) A Q := c_lcl i_126_8 rfl rfl
theorem q_126_9 : XX d 126 9 [v0, v1, v2, v3, v4, v5] (.ref a :: st) (mk S I L R G) Q ↔ S a = some (.inr 11) ∧ XX d 126 12 [v0, v1, v2, v3, v4, v5] (.ref (a + 1) :: st) (mk S I L R G) Q := r_gf i_126_9 rfl (by decide) rfl
theorem q_126_12 : XX d 126 12 [v0, v1, v2, v3, v4, v5] (.ref a :: st) (mk S I L R G) Q ↔ S a = some (.inr 7) ∧ XX d 126 15 [v0, v1, v2, v3, v4, v5] (.int (I a 1) :: st) (mk S I L R G) Q := r_gf i_126_12 rfl (by decide) rfl
theorem q_126_15 : XX (d + 1) 126 15 [v0, v1, v2, v3, v4, v5] [.int x3, .int x2, .int x1, .ref a0] (mk S I L R G) Q ↔ S a0 = some (.inr 11) ∧ XC d 146 [.ref a0, .int x1, .int x2, .int x3] (mk S I L R G) (XK (d + 1) 126 15 [v0, v1, v2, v3, v4, v5] [] Q) := c_callV i_126_15 rfl rfl rfl rfl (Nat.le_of_ble_eq_true rfl) (Nat.le_of_ble_eq_true rfl) rfl
theorem q_126_18 : XX d 126 18 [some (.ref a), v1, v2, v3, v4, v5] st A Q ↔ XX d 126 19 [some (.ref a), v1, v2, v3, v4, v5] (.ref a :: st) A Q := c_lcl i_126_18 rfl rfl
theorem q_126_19 : XX d 126 19 [v0, v1, v2, some (.int x), v4, v5] st A Q ↔ XX d 126 20 [v0, v1, v2, some (.int x), v4, v5] (.int x :: st) A Q := c_lcl i_126_19 rfl rfl
theorem q_126_20 : XX d 126 20 [v0, v1, v2, v3, v4, v5] st A Q ↔ XX d 126 21 [v0, v1, v2, v3, v4, v5] (.int (w 0) :: st) A Q := c_stk i_126_20 rfl
theorem q_126_21 : XX d 126 21 [v0, v1, v2, v3, v4, v5] st A Q ↔ XX d 126 22 [v0, v1, v2, v3, v4, v5] (.int (w 2) :: st) A Q := c_stk i_126_21 rfl
theorem q_126_22 : XX (d + 1) 126 22 [v0, v1, v2, v3, v4, v5] [.int x3, .int x2, .int x1, .ref a0] (mk S I L R G) Q ↔ S a0 = some (.inr 11) ∧ XC d 146 [.ref a0, .int x1, .int x2, .int x3] (mk S I L R G) (XK (d + 1) 126 22 [v0, v1, v2, v3, v4, v5] [] Q) := c_callV i_126_22 rfl rfl rfl rfl (Nat.le_of_ble_eq_true rfl) (Nat.le_of_ble_eq_true rfl) rfl
theorem q_126_25 : XX d 126 25 [some (.ref a), v1, v2, v3, v4, v5] st A Q ↔ XX d 126 26 [some (.ref a), v1, v2, v3, v4, v5] (.ref a :: st) A Q := c_lcl i_126_25 rfl rfl
theorem q_126_26 : XX d 126 26 [v0, some (.int x), v2, v3, v4, v5] st A Q ↔ XX d 126 27 [v0, some (.int x), v2, v3, v4, v5] (.int x :: st) A Q := c_lcl i_126_26 rfl rfl
theorem q_126_27 : XX (d + 1) 126 27 [v0, v1, v2, v3, v4, v5] [.int x1, .ref a0] (mk S I L R G) Q ↔ S a0 = some (.inr 11) ∧ XC d 141 [.ref a0, .int x1] (mk S I L R G) (XK (d + 1) 126 27 [v0, v1, v2, v3, v4, v5] [] Q) := c_callV i_126_27 rfl rfl rfl rfl (Nat.le_of_ble_eq_true rfl) (Nat.le_of_ble_eq_true rfl) rfl
theorem q_126_30 : XX d 126 30 [some (.ref a), v1, v2, v3, v4, v5] st A Q ↔ XX d 126 31 [some (.ref a), v1, v2, v3, v4, v5] (.ref a :: st) A Q := c_lcl i_126_30 rfl rfl
theorem q_126_31 : XX d 126 31 [v0, v1, v2, v3, v4, v5] (.ref a :: st) (mk S I L R G) Q ↔ S a = some (.inr 11) ∧ XX d 126 34 [v0, v1, v2, v3, v4, v5] (.ref (a + 3) :: st) (mk S I L R G) Q := r_gf i_126_31 rfl (by decide) rfl
theorem q_126_34 : XX d 126 34 [v0, v1, v2, v3, v4, v5] (.ref a :: st) (mk S I L R G) Q ↔ S a = some (.inr 0) ∧ XX d 126 37 [v0, v1, v2, v3, v4, v5] (.int (I a 2) :: st) (mk S I L R G) Q := r_gf i_126_34 rfl (by decide) rfl
theorem q_126_37 : XX (d + 1) 126 37 [v0, v1, v2, v3, v4, v5] [.int x1, .ref a0] (mk S I L R G) Q ↔ S a0 = some (.inr 5) ∧ XC d 43 [.ref a0, .int x1] (mk S I L R G) (XK (d + 1) 126 37 [v0, v1, v2, v3, v4, v5] [] Q) := c_callV i_126_37 rfl rfl rfl rfl (Nat.le_of_ble_eq_true rfl) (Nat.le_of_ble_eq_true rfl) rfl
theorem q_126_40 : XX d 126 40 [v0, v1, v2, some (.int z), v4, v5] (.ref a :: st) A Q ↔ XX d 126 42 [v0, v1, v2, some (.int z), some (.ref a), v5] st A Q := c_lcl i_126_40 rfl rfl
theorem q_126_42 : XX d 126 42 [v0, v1, v2, v3, some (.ref a), v5] st A Q ↔ XX d 126 44 [v0, v1, v2, v3, some (.ref a), v5] (.ref a :: st) A Q := c_lcl i_126_42 rfl rfl
theorem q_126_44 : XX d 126 44 [some (.ref a), v1, v2, v3, v4, v5] st A Q ↔ XX d 126 45 [some (.ref a), v1, v2, v3, v4, v5] (.ref a :: st) A Q := c_lcl i_126_44 rfl rfl
theorem q_126_45 : XX d 126 45 [v0, v1, v2, v3, v4, v5] (.ref a :: st) (mk S I L R G) Q ↔ S a = some (.inr 11) ∧ XX d 126 48 [v0, v1, v2, v3, v4, v5] (.ref (a + 1) :: st) (mk S I L R G) Q := r_gf i_126_45 rfl (by decide) rfl
theorem q_126_48 : XX d 126 48 [v0, v1, v2, v3, v4, v5] (.ref a :: st) (mk S I L R G) Q ↔ S a = some (.inr 7) ∧ XX d 126 51 [v0, v1, v2, v3, v4, v5] (.ref (a + 1) :: st) (mk S I L R G) Q := r_gf i_126_48 rfl (by decide) rfl
theorem q_126_51 : XX d 126 51 [v0, v1, v2, v3, v4, v5] st A Q ↔ XX d 126 52 [v0, v1, v2, v3, v4, v5] (.int (w 0) :: st) A Q := c_stk i_126_51 rfl
theorem q_126_52 : XX d 126 52 [v0, v1, some (.int x), v3, v4, v5] st A Q ↔ XX d 126 53 [v0, v1, some (.int x), v3, v4, v5] (.int x :: st) A Q := c_lcl i_126_52 rfl rfl
theorem q_126_53 : XX (d + 1) 126 53 [v0, v1, v2, v3, v4, v5] [.int x3, .int x2, .ref a1, .ref a0] (mk S I L R G) Q ↔ S a0 = some (.inr 5) ∧ XC d 48 [.ref a0, .ref a1, .int x2, .int x3] (mk S I L R G) (XK (d + 1) 126 53 [v0, v1, v2, v3, v4, v5] [] Q) := c_callV i_126_53 rfl rfl rfl rfl (Nat.le_of_ble_eq_true rfl) (Nat.le_of_ble_eq_true rfl) rfl
theorem q_126_56 : XX d 126 56 [v0, v1, v2, v3, some (.ref b), v5] (.int x :: st) A Q ↔ XX d 126 58 [v0, v1, v2, v3, some (.ref b), some (.int x)] st A Q := c_lcl i_126_56 rfl rfl
theorem q_126_58 : XX d 126 58 [v0, v1, v2, some (.int x), v4, v5] st A Q ↔ XX d 126 59 [v0, v1, v2, some (.int x), v4, v5] (.int x :: st) A Q := c_lcl i_126_58 rfl rfl
theorem q_126_59 : XX d 126 59 [v0, v1, v2, v3, v4, v5] (.int x :: st) A Q ↔ XX d 126 (swL [(0, 84), (1, 87)] 93 x.toInt) [v0, v1, v2, v3, v4, v5] st A Q := c_look i_126_59 rfl rfl rfl rfl
theorem q_126_84 : XX d 126 84 [v0, v1, v2, v3, v4, some (.int x)] st A Q ↔ XX d 126 86 [v0, v1, v2, v3, v4, some (.int x)] (.int x :: st) A Q := c_lcl i_126_84 rfl rfl
theorem q_126_86 : XX d 126 86 [v0, v1, v2, v3, v4, v5] [.int x] A Q ↔ Q (.inl (some (.int x))) A := e_retI i_126_86 rfl
theorem q_126_87 : XX d 126 87 [v0, v1, v2, v3, some (.ref a), v5] st A Q ↔ XX d 126 89 [v0, v1, v2, v3, some (.ref a), v5] (.ref a :: st) A Q := c_lcl i_126_87 rfl rfl
theorem q_126_89 : XX (d + 1) 126 89 [v0, v1, v2, v3, v4, v5] [.ref a0] (mk S I L R G) Q ↔ S a0 = some (.inr 5) ∧ XC d 49 [.ref a0] (mk S I L R G) (XK (d + 1) 126 89 [v0, v1, v2, v3, v4, v5] [] Q) := c_callV i_126_89 rfl rfl rfl rfl (Nat.le_of_ble_eq_true rfl) (Nat.le_of_ble_eq_true rfl) rfl
theorem q_126_92 : XX d 126 92 [v0, v1, v2, v3, v4, v5] [.int x] A Q ↔ Q (.inl (some (.int x))) A := e_retI i_126_92 rfl
theorem q_126_93 : XX d 126 93 [v0, v1, v2, v3, some (.ref a), v5] st A Q ↔ XX d 126 95 [v0, v1, v2, v3, some (.ref a), v5] (.ref a :: st) A Q := c_lcl i_126_93 rfl rfl
theorem q_126_95 : XX (d + 1) 126 95 [v0, v1, v2, v3, v4, v5] [.ref a0] (mk S I L R G) Q ↔ S a0 = some (.inr 5) ∧ XC d 50 [.ref a0] (mk S I L R G) (XK (d + 1) 126 95 [v0, v1, v2, v3, v4, v5] [] Q) := c_callV i_126_95 rfl rfl rfl rfl (Nat.le_of_ble_eq_true rfl) (Nat.le_of_ble_eq_true rfl) rfl
theorem q_126_98 : XX d 126 98 [v0, v1, v2, v3, v4, v5] [.int x] A Q ↔ Q (.inl (some (.int x))) A := e_retI i_126_98 rfl
theorem q_126_e : XC d 126 [.ref a0, .int x1, .int x2, .int x3] A Q ↔ XX d 126 0 [some (.ref a0), some (.int x1), some (.int x2), some (.int x3), none, none] [] A Q := Iff.rfl
theorem i_127_0 : t_ins 127 0 = some (.aload_n 0) := by decide +kernel
theorem i_127_1 : t_ins 127 1 = some (.iload_n 1) := by decide +kernel
theorem i_127_2 : t_ins 127 2 = some (.invokevirtual 206) := by decide +kernel
theorem i_127_5 : t_ins 127 5 = some (.aload_n 0) := by decide +kernel
theorem i_127_6 : t_ins 127 6 = some (.iload_n 2) := by decide +kernel
theorem i_127_7 : t_ins 127 7 = some (.invokevirtual 278) := by decide +kernel
theorem i_127_10 : t_ins 127 10 = some (.aload_n 0) := by decide +kernel
theorem i_127_11 : t_ins 127 11 = some (.iload_n 3) := by decide +kernel
theorem i_127_12 : t_ins 127 12 = some (.iconst 0) := by decide +kernel
theorem i_127_13 : t_ins 127 13 = some (.iconst 2) := by decide +kernel
theorem i_127_14 : t_ins 127 14 = some (.invokevirtual 89) := by decide +kernel
theorem i_127_17 : t_ins 127 17 = some (.aload_n 0) := by decide +kernel
theorem i_127_18 : t_ins 127 18 = some (.getfield 64) := by decide +kernel
theorem i_127_21 : t_ins 127 21 = some (.aload_n 0) := by decide +kernel
theorem i_127_22 : t_ins 127 22 = some (.iload_n 1) := by decide +kernel
theorem i_127_23 : t_ins 127 23 = some (.invokevirtual 166) := by decide +kernel
theorem i_127_26 : t_ins 127 26 = some (.aload_n 0) := by decide +kernel
theorem i_127_27 : t_ins 127 27 = some (.getfield 19) := by decide +kernel
theorem i_127_30 : t_ins 127 30 = some (.getfield 137) := by decide +kernel
theorem i_127_33 : t_ins 127 33 = some (.invokevirtual 250) := by decide +kernel
theorem i_127_36 : t_ins 127 36 = some (.invokevirtual 281) := by decide +kernel
theorem i_127_39 : t_ins 127 39 = some (.iload_n 3) := by decide +kernel
theorem i_127_40 : t_ins 127 40 = some (.lookupswitch 44 #[(0, 28), (1, 36)]) := by decide +kernel
theorem i_127_68 : t_ins 127 68 = some (.aload_n 0) := by decide +kernel
theorem i_127_69 : t_ins 127 69 = some (.getfield 64) := by decide +kernel
theorem i_127_72 : t_ins 127 72 = some (.invokevirtual 285) := by decide +kernel
theorem i_127_75 : t_ins 127 75 = some (.ireturn) := by decide +kernel
theorem i_127_76 : t_ins 127 76 = some (.aload_n 0) := by decide +kernel
theorem i_127_77 : t_ins 127 77 = some (.getfield 64) := by decide +kernel
theorem i_127_80 : t_ins 127 80 = some (.invokevirtual 288) := by decide +kernel
theorem i_127_83 : t_ins 127 83 = some (.ireturn) := by decide +kernel
theorem i_127_84 : t_ins 127 84 = some (.aload_n 0) := by decide +kernel
theorem i_127_85 : t_ins 127 85 = some (.getfield 64) := by decide +kernel
theorem i_127_88 : t_ins 127 88 = some (.invokevirtual 291) := by decide +kernel
theorem i_127_91 : t_ins 127 91 = some (.ireturn) := by decide +kernel
theorem q_127_0 : XX d 127 0 [some (.ref a), v1, v2, v3] st A Q ↔ XX d 127 1 [some (.ref a), v1, v2, v3] (.ref a :: st) A Q := c_lcl i_127_0 rfl rfl
theorem q_127_1 : XX d 127 1 [v0, some (.int x), v2, v3] st A Q ↔ XX d 127 2 [v0, some (.int x), v2, v3] (.int x :: st) A Q := c_lcl i_127_1 rfl rfl
theorem q_127_2 : XX (d + 1) 127 2 [v0, v1, v2, v3] [.int x1, .ref a0] (mk S I L R G) Q ↔ S a0 = some (.inr 11) ∧ XC d 143 [.ref a0, .int x1] (mk S I L R G) (XK (d + 1) 127 2 [v0, v1, v2, v3] [] Q) := c_callV i_127_2 rfl rfl rfl rfl (Nat.le_of_ble_eq_true rfl) (Nat.le_of_ble_eq_true rfl) rfl
theorem q_127_5 : XX d 127 5 [some (.ref a), v1, v2, v3] st A Q ↔ XX d 127 6 [some (.ref a), v1, v2, v3] (.ref a :: st) A Q := c_lcl i_127_5 rfl rfl
theorem q_127_6 : XX d 127 6 [v0, v1, some (.int x), v3] st A Q ↔ XX d 127 7 [v0, v1, some (.int x), v3] (.int x :: st) A Q := c_lcl i_127_6 rfl rfl
theorem q_127_7 : XX (d + 1) 127 7 [v0, v1, v2, v3] [.int x1, .ref a0] (mk S I L R G) Q ↔ S a0 = some (.inr 11) ∧ XC d 147 [.ref a0, .int x1] (mk S I L R G) (XK (d + 1) 127 7 [v0, v1, v2, v3] [] Q) := c_callV i_127_7 rfl rfl rfl rfl (Nat.le_of_ble_eq_true rfl) (Nat.le_of_ble_eq_true rfl) rfl
theorem q_127_10 : XX d 127 10 [some (.ref a), v1, v2, v3] st A Q ↔ XX d 127 11 [some (.ref a), v1, v2, v3] (.ref a :: st) A Q := c_lcl i_127_10 rfl rfl
theorem q_127_11 : XX d 127 11 [v0, v1, v2, some (.int x)] st A Q ↔ XX d 127 12 [v0, v1, v2, some (.int x)] (.int x :: st) A Q := c_lcl i_127_11 rfl rfl
theorem q_127_12 : XX d 127 12 [v0, v1, v2, v3] st A Q ↔ XX d 127 13 [v0, v1, v2, v3] (.int (w 0) :: st) A Q := c_stk i_127_12 rfl
theorem q_127_13 : XX d 127 13 [v0, v1, v2, v3] st A Q ↔ XX d 127 14 [v0, v1, v2, v3] (.int (w 2) :: st) A Q := c_stk i_127_13 rfl
theorem q_127_14 : XX (d + 1) 127 14 [v0, v1, v2, v3] [.int x3, .int x2, .int x1, .ref a0] (mk S I L R G) Q ↔ S a0 = some (.inr 11) ∧ XC d 146 [.ref a0, .int x1, .int x2, .int x3] (mk S I L R G) (XK (d + 1) 127 14 [v0, v1, v2, v3] [] Q) := c_callV i_127_14 rfl rfl rfl rfl (Nat.le_of_ble_eq_true rfl) (Nat.le_of_ble_eq_true rfl) rfl
theorem q_127_17 : XX d 127 17 [some (.ref a), v1, v2, v3] st A Q ↔ XX d 127 18 [some (.ref a), v1, v2, v3] (.ref a :: st) A Q := c_lcl i_127_17 rfl rfl
theorem q_127_18 : XX d 127 18 [v0, v1, v2, v3] (.ref a :: st) (mk S I L R G) Q ↔ S a = some (.inr 11) ∧ XX d 127 21 [v0, v1, v2, v3] (.ref (a + 112) :: st) (mk S I L R G) Q := r_gf i_127_18 rfl (by decide) rfl
theorem q_127_21 : XX d 127 21 [some (.ref a), v1, v2, v3] st A Q ↔ XX d 127 22 [some (.ref a), v1, v2, v3] (.ref a :: st) A Q := c_lcl i_127_21 rfl rfl
theorem q_127_22 : XX d 127 22 [v0, some (.int x), v2, v3] st A Q ↔ XX d 127 23 [v0, some (.int x), v2, v3] (.int x :: st) A Q := c_lcl i_127_22 rfl rfl
theorem q_127_23 : XX (d + 1) 127 23 [v0, v1, v2, v3] [.int x1, .ref a0, .ref a2] (mk S I L R G) Q ↔ S a0 = some (.inr 11) ∧ XC d 141 [.ref a0, .int x1] (mk S I L R G) (XK (d + 1) 127 23 [v0, v1, v2, v3] [.ref a2] Q) := c_callV i_127_23 rfl rfl rfl rfl (Nat.le_of_ble_eq_true rfl) (Nat.le_of_ble_eq_true rfl) rfl
theorem q_127_26 : XX d 127 26 [some (.ref a), v1, v2, v3] st A Q ↔ XX d 127 27 [some (.ref a), v1, v2, v3] (.ref a :: st) A Q := c_lcl i_127_26 rfl rfl
theorem q_127_27 : XX d 127 27 [v0, v1, v2, v3] (.ref a :: st) (mk S I L R G) Q ↔ S a = some (.inr 11) ∧ XX d 127 30 [v0, v1, v2, v3] (.ref (a + 3) :: st) (mk S I L R G) Q := r_gf i_127_27 rfl (by decide) rfl
theorem q_127_30 : XX d 127 30 [v0, v1, v2, v3] (.ref a :: st) (mk S I L R G) Q ↔ S a = some (.inr 0) ∧ XX d 127 33 [v0, v1, v2, v3] (.int (I a 2) :: st) (mk S I L R G) Q := r_gf i_127_30 rfl (by decide) rfl
theorem q_127_33 : XX (d + 1) 127 33 [v0, v1, v2, v3] [.int x1, .ref a0, .ref a2] (mk S I L R G) Q ↔ S a0 = some (.inr 5) ∧ XC d 43 [.ref a0, .int x1] (mk S I L R G) (XK (d + 1) 127 33 [v0, v1, v2, v3] [.ref a2] Q) := c_callV i_127_33 rfl rfl rfl rfl (Nat.le_of_ble_eq_true rfl) (Nat.le_of_ble_eq_true rfl) rfl
theorem q_127_36 : XX (d + 1) 127 36 [v0, v1, v2, v3] [.ref a1, .ref a0] (mk S I L R G) Q ↔ S a0 = some (.inr 2) ∧ XC d 16 [.ref a0, .ref a1] (mk S I L R G) (XK (d + 1) 127 36 [v0, v1, v2, v3] [] Q) := c_callV i_127_36 rfl rfl rfl rfl (Nat.le_of_ble_eq_true rfl) (Nat.le_of_ble_eq_true rfl) rfl
theorem q_127_39 : XX d 127 39 [v0, v1, v2, some (.int x)] st A Q ↔ XX d 127 40 [v0, v1, v2, some (.int x)] (.int x :: st) A Q := c_lcl i_127_39 rfl rfl
theorem q_127_40 : XX d 127 40 [v0, v1, v2, v3] (.int x :: st) A Q ↔ XX d 127 (swL [(0, 68), (1, 76)] 84 x.toInt) [v0, v1, v2, v3] st A Q := c_look i_127_40 rfl rfl rfl rfl
theorem q_127_68 : XX d 127 68 [some (.ref a), v1, v2, v3] st A Q ↔ XX d 127 69 [some (.ref a), v1, v2, v3] (.ref a :: st) A Q := c_lcl i_127_68 rfl rfl
theorem q_127_69 : XX d 127 69 [v0, v1, v2, v3] (.ref a :: st) (mk S I L R G) Q ↔ S a = some (.inr 11) ∧ XX d 127 72 [v0, v1, v2, v3] (.ref (a + 112) :: st) (mk S I L R G) Q := r_gf i_127_69 rfl (by decide) rfl
theorem q_127_72 : XX (d + 1) 127 72 [v0, v1, v2, v3] [.ref a0] (mk S I L R G) Q ↔ S a0 = some (.inr 2) ∧ XC d 18 [.ref a0] (mk S I L R G) (XK (d + 1) 127 72 [v0, v1, v2, v3] [] Q) := c_callV i_127_72 rfl rfl rfl rfl (Nat.le_of_ble_eq_true rfl) (Nat.le_of_ble_eq_true rfl) rfl
theorem q_127_75 : XX d 127 75 [v0, v1, v2, v3] [.int x] A Q ↔ Q (.inl (some (.int x))) A := e_retI i_127_75 rfl
theorem q_127_76 : XX d 127 76 [some (.ref a), v1, v2, v3] st A Q ↔ XX d 127 77 [some (.ref a), v1, v2, v3] (.ref a :: st) A Q := c_lcl i_127_76 rfl rfl
theorem q_127_77 : XX d 127 77 [v0, v1, v2, v3] (.ref a :: st) (mk S I L R G) Q ↔ S a = some (.inr 11) ∧ XX d 127 80 [v0, v1, v2, v3] (.ref (a + 112) :: st) (mk S I L R G) Q := r_gf i_127_77 rfl (by decide) rfl
theorem q_127_80 : XX (d + 1) 127 80 [v0, v1, v2, v3] [.ref a0] (mk S I L R G) Q ↔ S a0 = some (.inr 2) ∧ XC d 19 [.ref a0] (mk S I L R G) (XK (d + 1) 127 80 [v0, v1, v2, v3] [] Q) := c_callV i_127_80 rfl rfl rfl rfl (Nat.le_of_ble_eq_true rfl) (Nat.le_of_ble_eq_true rfl) rfl
theorem q_127_83 : XX d 127 83 [v0, v1, v2, v3] [.int x] A Q ↔ Q (.inl (some (.int x))) A := e_retI i_127_83 rfl
theorem q_127_84 : XX d 127 84 [some (.ref a), v1, v2, v3] st A Q ↔ XX d 127 85 [some (.ref a), v1, v2, v3] (.ref a :: st) A Q := c_lcl i_127_84 rfl rfl
theorem q_127_85 : XX d 127 85 [v0, v1, v2, v3] (.ref a :: st) (mk S I L R G) Q ↔ S a = some (.inr 11) ∧ XX d 127 88 [v0, v1, v2, v3] (.ref (a + 112) :: st) (mk S I L R G) Q := r_gf i_127_85 rfl (by decide) rfl
theorem q_127_88 : XX (d + 1) 127 88 [v0, v1, v2, v3] [.ref a0] (mk S I L R G) Q ↔ S a0 = some (.inr 2) ∧ XC d 20 [.ref a0] (mk S I L R G) (XK (d + 1) 127 88 [v0, v1, v2, v3] [] Q) := c_callV i_127_88 rfl rfl rfl rfl (Nat.le_of_ble_eq_true rfl) (Nat.le_of_ble_eq_true rfl) rfl
theorem q_127_91 : XX d 127 91 [v0, v1, v2, v3] [.int x] A Q ↔ Q (.inl (some (.int x))) A := e_retI i_127_91 rfl
theorem q_127_e : XC d 127 [.ref a0, .int x1, .int x2, .int x3] A Q ↔ XX d 127 0 [some (.ref a0), some (.int x1), some (.int x2), some (.int x3)] [] A Q := Iff.rfl
theorem i_128_0 : t_ins 128 0 = some (.aload_n 0) := by decide +kernel
theorem i_128_1 : t_ins 128 1 = some (.iload_n 1) := by decide +kernel
theorem i_128_2 : t_ins 128 2 = some (.invokevirtual 206) := by decide +kernel
theorem i_128_5 : t_ins 128 5 = some (.aload_n 0) := by decide +kernel
theorem i_128_6 : t_ins 128 6 = some (.iload_n 2) := by decide +kernel
theorem i_128_7 : t_ins 128 7 = some (.invokevirtual 278) := by decide +kernel
theorem i_128_10 : t_ins 128 10 = some (.aload_n 0) := by decide +kernel
theorem i_128_11 : t_ins 128 11 = some (.getfield 64) := by decide +kernel
theorem i_128_14 : t_ins 128 14 = some (.aload_n 0) := by decide +kernel
theorem i_128_15 : t_ins 128 15 = some (.iload_n 1) := by decide +kernel
theorem i_128_16 : t_ins 128 16 = some (.invokevirtual 166) := by decide +kernel
theorem i_128_19 : t_ins 128 19 = some (.aload_n 0) := by decide +kernel
theorem i_128_20 : t_ins 128 20 = some (.getfield 19) := by decide +kernel
theorem i_128_23 : t_ins 128 23 = some (.getfield 137) := by decide +kernel
theorem i_128_26 : t_ins 128 26 = some (.invokevirtual 250) := by decide +kernel
theorem i_128_29 : t_ins 128 29 = some (.invokevirtual 281) := by decide +kernel
theorem i_128_32 : t_ins 128 32 = some (.aload_n 0) := by decide +kernel
theorem i_128_33 : t_ins 128 33 = some (.iload_n 3) := by decide +kernel
theorem i_128_34 : t_ins 128 34 = some (.aload_n 0) := by decide +kernel
theorem i_128_35 : t_ins 128 35 = some (.getfield 64) := by decide +kernel
theorem i_128_38 : t_ins 128 38 = some (.invokevirtual 288) := by decide +kernel
theorem i_128_41 : t_ins 128 41 = some (.invokevirtual 197) := by decide +kernel
theorem i_128_44 : t_ins 128 44 = some (.aload_n 0) := by decide +kernel
theorem i_128_45 : t_ins 128 45 = some (.iload 4) := by decide +kernel
theorem i_128_47 : t_ins 128 47 = some (.iconst 0) := by decide +kernel
theorem i_128_48 : t_ins 128 48 = some (.iconst 1) := by decide +kernel
theorem i_128_49 : t_ins 128 49 = some (.invokevirtual 89) := by decide +kernel
theorem i_128_52 : t_ins 128 52 = some (.aload_n 0) := by decide +kernel
theorem i_128_53 : t_ins 128 53 = some (.getfield 64) := by decide +kernel
theorem i_128_56 : t_ins 128 56 = some (.iload_n 3) := by decide +kernel
theorem i_128_57 : t_ins 128 57 = some (.iload 4) := by decide +kernel
theorem i_128_59 : t_ins 128 59 = some (.invokevirtual 294) := by decide +kernel
theorem i_128_62 : t_ins 128 62 = some (.ireturn) := by decide +kernel
theorem q_128_0 : XX d 128 0 [some (.ref a), v1, v2, v3, v4] st A Q ↔ XX d 128 1 [some (.ref a), v1, v2, v3, v4] (.ref a :: st) A Q := c_lcl i_128_0 rfl rfl
theorem q_128_1 : XX d 128 1 [v0, some (.int x), v2, v3, v4] st A Q ↔ XX d 128 2 [v0, some (.int x), v2, v3, v4] (.int x :: st) A Q := c_lcl i_128_1 rfl rfl
theorem q_128_2 : XX (d + 1) 128 2 [v0, v1, v2, v3, v4] [.int x1, .ref a0] (mk S I L R G) Q ↔ S a0 = some (.inr 11) ∧ XC d 143 [.ref a0, .int x1] (mk S I L R G) (XK (d + 1) 128 2 [v0, v1, v2, v3, v4] [] Q) := c_callV i_128_2 rfl rfl rfl rfl (Nat.le_of_ble_eq_true rfl) (Nat.le_of_ble_eq_true rfl) rfl
theorem q_128_5 : XX d 128 5 [some (.ref a), v1, v2, v3, v4] st A Q ↔ XX d 128 6 [some (.ref a), v1, v2, v3, v4] (.ref a :: st) A Q := c_lcl i_128_5 rfl rfl
theorem q_128_6 : XX d 128 6 [v0, v1, some (.int x), v3, v4] st A Q ↔ XX d 128 7 [v0, v1, some (.int x), v3, v4] (.int x :: st) A Q := c_lcl i_128_6 rfl rfl
theorem q_128_7 : XX (d + 1) 128 7 [v0, v1, v2, v3, v4] [.int x1, .ref a0] (mk S I L R G) Q ↔ S a0 = some (.inr 11) ∧ XC d 147 [.ref a0, .int x1] (mk S I L R G) (XK (d + 1) 128 7 [v0, v1, v2, v3, v4] [] Q) := c_callV i_128_7 rfl rfl rfl rfl (Nat.le_of_ble_eq_true rfl) (Nat.le_of_ble_eq_true rfl) rfl
theorem q_128_10 : XX d 128 10 [some (.ref a), v1, v2, v3, v4] st A Q ↔ XX d 128 11 [some (.ref a), v1, v2, v3, v4] (.ref a :: st) A Q := c_lcl i_128_10 rfl rfl
theorem q_128_11 : XX d 128 11 [v0, v1, v2, v3, v4] (.ref a :: st) (mk S I L R G) Q ↔ S a = some (.inr 11) ∧ XX d 128 14 [v0, v1, v2, v3, v4] (.ref (a + 112) :: st) (mk S I L R G) Q := r_gf i_128_11 rfl (by decide) rfl
theorem q_128_14 : XX d 128 14 [some (.ref a), v1, v2, v3, v4] st A Q ↔ XX d 128 15 [some (.ref a), v1, v2, v3, v4] (.ref a :: st) A Q := c_lcl i_128_14 rfl rfl
theorem q_128_15 : XX d 128 15 [v0, some (.int x), v2, v3, v4] st A Q ↔ XX d 128 16 [v0, some (.int x), v2, v3, v4] (.int x :: st) A Q := c_lcl i_128_15 rfl rfl
theorem q_128_16 : XX (d + 1) 128 16 [v0, v1, v2, v3, v4] [.int x1, .ref a0, .ref a2] (mk S I L R G) Q ↔ S a0 = some (.inr 11) ∧ XC d 141 [.ref a0, .int x1] (mk S I L R G) (XK (d + 1) 128 16 [v0, v1, v2, v3, v4] [.ref a2] Q) := c_callV i_128_16 rfl rfl rfl rfl (Nat.le_of_ble_eq_true rfl) (Nat.le_of_ble_eq_true rfl) rfl
theorem q_128_19 : XX d 128 19 [some (.ref a), v1, v2, v3, v4] st A Q ↔ XX d 128 20 [some (.ref a), v1, v2, v3, v4] (.ref a :: st) A Q := c_lcl i_128_19 rfl rfl
theorem q_128_20 : XX d 128 20 [v0, v1, v2, v3, v4] (.ref a :: st) (mk S I L R G) Q ↔ S a = some (.inr 11) ∧ XX d 128 23 [v0, v1, v2, v3, v4] (.ref (a + 3) :: st) (mk S I L R G) Q := r_gf i_128_20 rfl (by decide) rfl
theorem q_128_23 : XX d 128 23 [v0, v1, v2, v3, v4] (.ref a :: st) (mk S I L R G) Q ↔ S a = some (.inr 0) ∧ XX d 128 26 [v0, v1, v2, v3, v4] (.int (I a 2) :: st) (mk S I L R G) Q := r_gf i_128_23 rfl (by decide) rfl
theorem q_128_26 : XX (d + 1) 128 26 [v0, v1, v2, v3, v4] [.int x1, .ref a0, .ref a2] (mk S I L R G) Q ↔ S a0 = some (.inr 5) ∧ XC d 43 [.ref a0, .int x1] (mk S I L R G) (XK (d + 1) 128 26 [v0, v1, v2, v3, v4] [.ref a2] Q) := c_callV i_128_26 rfl rfl rfl rfl (Nat.le_of_ble_eq_true rfl) (Nat.le_of_ble_eq_true rfl) rfl
theorem q_128_29 : XX (d + 1) 128 29 [v0, v1, v2, v3, v4] [.ref a1, .ref a0] (mk S I L R G) Q ↔ S a0 = some (.inr 2) ∧ XC d 16 [.ref a0, .ref a1] (mk S I L R G) (XK (d + 1) 128 29 [v0, v1, v2, v3, v4] [] Q) := c_callV i_128_29 rfl rfl rfl rfl (Nat.le_of_ble_eq_true rfl) (Nat.le_of_ble_eq_true rfl) rfl
theorem q_128_32 : XX d 128 32 [some (.ref a), v1, v2, v3, v4] st A Q ↔ XX d 128 33 [some (.ref a), v1, v2, v3, v4] (.ref a :: st) A Q := c_lcl i_128_32 rfl rfl
theorem q_128_33 : XX d 128 33 [v0, v1, v2, some (.int x), v4] st A Q ↔ XX d 128 34 [v0, v1, v2, some (.int x), v4] (.int x :: st) A Q := c_lcl i_128_33 rfl rfl
theorem q_128_34 : XX d 128 34 [some (.ref a), v1, v2, v3, v4] st A Q ↔ XX d 128 35 [some (.ref a), v1, v2, v3, v4] (.ref a :: st) A Q := c_lcl i_128_34 rfl rfl
theorem q_128_35 : XX d 128 35 [v0, v1, v2, v3, v4] (.ref a :: st) (mk S I L R G) Q ↔ S a = some (.inr 11) ∧ XX d 128 38 [v0, v1, v2, v3, v4] (.ref (a + 112) :: st) (mk S I L R G) Q := r_gf i_128_35 rfl (by decide) rfl
theorem q_128_38 : XX (d + 1) 128 38 [v0, v1, v2, v3, v4] [.ref a0, .int x1, .ref a2] (mk S I L R G) Q ↔ S a0 = some (.inr 2) ∧ XC d 19 [.ref a0] (mk S I L R G) (XK (d + 1) 128 38 [v0, v1, v2, v3, v4] [.int x1, .ref a2] Q) := c_callV i_128_38 rfl rfl rfl rfl (Nat.le_of_ble_eq_true rfl) (Nat.le_of_ble_eq_true rfl) rfl
theorem q_128_41 : XX (d + 1) 128 41 [v0, v1, v2, v3, v4] [.int x2, .int x1, .ref a0] (mk S I L R G) Q ↔ S a0 = some (.inr 11) ∧ XC d 145 [.ref a0, .int x1, .int x2] (mk S I L R G) (XK (d + 1) 128 41 [v0, v1, v2, v3, v4] [] Q) := c_callV i_128_41 rfl rfl rfl rfl (Nat.le_of_ble_eq_true rfl) (Nat.le_of_ble_eq_true rfl) rfl
theorem q_128_44 : XX d 128 44 [some (.ref a), v1, v2, v3, v4] st A Q ↔ XX d 128 45 [some (.ref a), v1, v2, v3, v4] (.ref a :: st) A Q := c_lcl i_128_44 rfl rfl
theorem q_128_45 : XX d 128 45 [v0, v1, v2, v3, some (.int x)] st A Q ↔ XX d 128 47 [v0, v1, v2, v3, some (.int x)] (.int x :: st) A Q := c_lcl i_128_45 rfl rfl
theorem q_128_47 : XX d 128 47 [v0, v1, v2, v3, v4] st A Q ↔ XX d 128 48 [v0, v1, v2, v3, v4] (.int (w 0) :: st) A Q := c_stk i_128_47 rfl
theorem q_128_48 : XX d 128 48 [v0, v1, v2, v3, v4] st A Q ↔ XX d 128 49 [v0, v1, v2, v3, v4] (.int (w 1) :: st) A Q := c_stk i_128_48 rfl
theorem q_128_49 : XX (d + 1) 128 49 [v0, v1, v2, v3, v4] [.int x3, .int x2, .int x1, .ref a0] (mk S I L R G) Q ↔ S a0 = some (.inr 11) ∧ XC d 146 [.ref a0, .int x1, .int x2, .int x3] (mk S I L R G) (XK (d + 1) 128 49 [v0, v1, v2, v3, v4] [] Q) := c_callV i_128_49 rfl rfl rfl rfl (Nat.le_of_ble_eq_true rfl) (Nat.le_of_ble_eq_true rfl) rfl
theorem q_128_52 : XX d 128 52 [some (.ref a), v1, v2, v3, v4] st A Q ↔ XX d 128 53 [some (.ref a), v1, v2, v3, v4] (.ref a :: st) A Q := c_lcl i_128_52 rfl rfl
theorem q_128_53 : XX d 128 53 [v0, v1, v2, v3, v4] (.ref a :: st) (mk S I L R G) Q ↔ S a = some (.inr 11) ∧ XX d 128 56 [v0, v1, v2, v3, v4] (.ref (a + 112) :: st) (mk S I L R G) Q := r_gf i_128_53 rfl (by decide) rfl
theorem q_128_56 : XX d 128 56 [v0, v1, v2, some (.int x), v4] st A Q ↔ XX d 128 57 [v0, v1, v2, some (.int x), v4] (.int x :: st) A Q := c_lcl i_128_56 rfl rfl
theorem q_128_57 : XX d 128 57 [v0, v1, v2, v3, some (.int x)] st A Q ↔ XX d 128 59 [v0, v1, v2, v3, some (.int x)] (.int x :: st) A Q := c_lcl i_128_57 rfl rfl
theorem q_128_59 : XX (d + 1) 128 59 [v0, v1, v2, v3, v4] [.int x2, .int x1, .ref a0] (mk S I L R G) Q ↔ S a0 = some (.inr 2) ∧ XC d 21 [.ref a0, .int x1, .int x2] (mk S I L R G) (XK (d + 1) 128 59 [v0, v1, v2, v3, v4] [] Q) := c_callV i_128_59 rfl rfl rfl rfl (Nat.le_of_ble_eq_true rfl) (Nat.le_of_ble_eq_true rfl) rfl
theorem q_128_62 : XX d 128 62 [v0, v1, v2, v3, v4] [.int x] A Q ↔ Q (.inl (some (.int x))) A := e_retI i_128_62 rfl
theorem q_128_e : XC d 128 [.ref a0, .int x1, .int x2, .int x3, .int x4] A Q ↔ XX d 128 0 [some (.ref a0), some (.int x1), some (.int x2), some (.int x3), some (.int x4)] [] A Q := Iff.rfl
theorem i_129_0 : t_ins 129 0 = some (.aload_n 0) := by decide +kernel
theorem i_129_1 : t_ins 129 1 = some (.iload_n 1) := by decide +kernel
theorem i_129_2 : t_ins 129 2 = some (.invokevirtual 206) := by decide +kernel
theorem i_129_5 : t_ins 129 5 = some (.aload_n 0) := by decide +kernel
theorem i_129_6 : t_ins 129 6 = some (.iload_n 2) := by decide +kernel
theorem i_129_7 : t_ins 129 7 = some (.invokevirtual 278) := by decide +kernel
theorem i_129_10 : t_ins 129 10 = some (.aload_n 0) := by decide +kernel
theorem i_129_11 : t_ins 129 11 = some (.getfield 64) := by decide +kernel
theorem i_129_14 : t_ins 129 14 = some (.aload_n 0) := by decide +kernel
theorem i_129_15 : t_ins 129 15 = some (.iload_n 1) := by decide +kernel
theorem i_129_16 : t_ins 129 16 = some (.invokevirtual 166) := by decide +kernel
theorem i_129_19 : t_ins 129 19 = some (.aload_n 0) := by decide +kernel
theorem i_129_20 : t_ins 129 20 = some (.getfield 19) := by decide +kernel
theorem i_129_23 : t_ins 129 23 = some (.getfield 137) := by decide +kernel
theorem i_129_26 : t_ins 129 26 = some (.invokevirtual 250) := by decide +kernel
theorem i_129_29 : t_ins 129 29 = some (.invokevirtual 281) := by decide +kernel
theorem i_129_32 : t_ins 129 32 = some (.aload_n 0) := by decide +kernel
theorem i_129_33 : t_ins 129 33 = some (.getfield 64) := by decide +kernel
theorem i_129_36 : t_ins 129 36 = some (.getfield 297) := by decide +kernel
theorem i_129_39 : t_ins 129 39 = some (.ireturn) := by decide +kernel
theorem q_129_0 : XX d 129 0 [some (.ref a), v1, v2] st A Q ↔ XX d 129 1 [some (.ref a), v1, v2] (.ref a :: st) A Q := c_lcl i_129_0 rfl rfl
theorem q_129_1 : XX d 129 1 [v0, some (.int x), v2] st A Q ↔ XX d 129 2 [v0, some (.int x), v2] (.int x :: st) A Q := c_lcl i_129_1 rfl rfl
theorem q_129_2 : XX (d + 1) 129 2 [v0, v1, v2] [.int x1, .ref a0] (mk S I L R G) Q ↔ S a0 = some (.inr 11) ∧ XC d 143 [.ref a0, .int x1] (mk S I L R G) (XK (d + 1) 129 2 [v0, v1, v2] [] Q) := c_callV i_129_2 rfl rfl rfl rfl (Nat.le_of_ble_eq_true rfl) (Nat.le_of_ble_eq_true rfl) rfl
theorem q_129_5 : XX d 129 5 [some (.ref a), v1, v2] st A Q ↔ XX d 129 6 [some (.ref a), v1, v2] (.ref a :: st) A Q := c_lcl i_129_5 rfl rfl
theorem q_129_6 : XX d 129 6 [v0, v1, some (.int x)] st A Q ↔ XX d 129 7 [v0, v1, some (.int x)] (.int x :: st) A Q := c_lcl i_129_6 rfl rfl
theorem q_129_7 : XX (d + 1) 129 7 [v0, v1, v2] [.int x1, .ref a0] (mk S I L R G) Q ↔ S a0 = some (.inr 11) ∧ XC d 147 [.ref a0, .int x1] (mk S I L R G) (XK (d + 1) 129 7 [v0, v1, v2] [] Q) := c_callV i_129_7 rfl rfl rfl rfl (Nat.le_of_ble_eq_true rfl) (Nat.le_of_ble_eq_true rfl) rfl
theorem q_129_10 : XX d 129 10 [some (.ref a), v1, v2] st A Q ↔ XX d 129 11 [some (.ref a), v1, v2] (.ref a :: st) A Q := c_lcl i_129_10 rfl rfl
theorem q_129_11 : XX d 129 11 [v0, v1, v2] (.ref a :: st) (mk S I L R G) Q ↔ S a = some (.inr 11) ∧ XX d 129 14 [v0, v1, v2] (.ref (a + 112) :: st) (mk S I L R G) Q := r_gf i_129_11 rfl (by decide) rfl
theorem q_129_14 : XX d 129 14 [some (.ref a), v1, v2] st A Q ↔ XX d 129 15 [some (.ref a), v1, v2] (.ref a :: st) A Q := c_lcl i_129_14 rfl rfl
theorem q_129_15 : XX d 129 15 [v0, some (.int x), v2] st A Q ↔ XX d 129 16 [v0, some (.int x), v2] (.int x :: st) A Q := c_lcl i_129_15 rfl rfl
theorem q_129_16 : XX (d + 1) 129 16 [v0, v1, v2] [.int x1, .ref a0, .ref a2] (mk S I L R G) Q ↔ S a0 = some (.inr 11) ∧ XC d 141 [.ref a0, .int x1] (mk S I L R G) (XK (d + 1) 129 16 [v0, v1, v2] [.ref a2] Q) := c_callV i_129_16 rfl rfl rfl rfl (Nat.le_of_ble_eq_true rfl) (Nat.le_of_ble_eq_true rfl) rfl
theorem q_129_19 : XX d 129 19 [some (.ref a), v1, v2] st A Q ↔ XX d 129 20 [some (.ref a), v1, v2] (.ref a :: st) A Q := c_lcl i_129_19 rfl rfl
theorem q_129_20 : XX d 129 20 [v0, v1, v2] (.ref a :: st) (mk S I L R G) Q ↔ S a = some (.inr 11) ∧ XX d 129 23 [v0, v1, v2] (.ref (a + 3) :: st) (mk S I L R G) Q := r_gf i_129_20 rfl (by decide) rfl
theorem q_129_23 : XX d 129 23 [v0, v1, v2] (.ref a :: st) (mk S I L R G) Q ↔ S a = some (.inr 0) ∧ XX d 129 26 [v0, v1, v2] (.int (I a 2) :: st) (mk S I L R G) Q := r_gf i_129_23 rfl (by decide) rfl
theorem q_129_26 : XX (d + 1) 129 26 [v0, v1, v2] [.int x1, .ref a0, .ref a2] (mk S I L R G) Q ↔ S a0 = some (.inr 5) ∧ XC d 43 [.ref a0, .int x1] (mk S I L R G) (XK (d + 1) 129 26 [v0, v1, v2] [.ref a2] Q) := c_callV i_129_26 rfl rfl rfl rfl (Nat.le_of_ble_eq_true rfl) (Nat.le_of_ble_eq_true rfl) rfl
theorem q_129_29 : XX (d + 1) 129 29 [v0, v1, v2] [.ref a1, .ref a0] (mk S I L R G) Q ↔ S a0 = some (.inr 2) ∧ XC d 16 [.ref a0, .ref a1] (mk S I L R G) (XK (d + 1) 129 29 [v0, v1, v2] [] Q) := c_callV i_129_29 rfl rfl rfl rfl (Nat.le_of_ble_eq_true rfl) (Nat.le_of_ble_eq_true rfl) rfl
theorem q_129_32 : XX d 129 32 [some (.ref a), v1, v2] st A Q ↔ XX d 129 33 [some (.ref a), v1, v2] (.ref a :: st) A Q := c_lcl i_129_32 rfl rfl
theorem q_129_33 : XX d 129 33 [v0, v1, v2] (.ref a :: st) (mk S I L R G) Q ↔ S a = some (.inr 11) ∧ XX d 129 36 [v0, v1, v2] (.ref (a + 112) :: st) (mk S I L R G) Q := r_gf i_129_33 rfl (by decide) rfl
theorem q_129_36 : XX d 129 36 [v0, v1, v2] (.ref a :: st) (mk S I L R G) Q ↔ S a = some (.inr 2) ∧ XX d 129 39 [v0, v1, v2] (.int (I a 8) :: st) (mk S I L R G) Q := r_gf i_129_36 rfl (by decide) rfl
theorem q_129_39 : XX d 129 39 [v0, v1, v2] [.int x] A Q ↔ Q (.inl (some (.int x))) A := e_retI i_129_39 rfl
theorem q_129_e : XC d 129 [.ref a0, .int x1, .int x2] A Q ↔ XX d 129 0 [some (.ref a0), some (.int x1), some (.int x2)] [] A Q := Iff.rfl
theorem i_130_0 : t_ins 130 0 = some (.aload_n 0) := by decide +kernel
theorem i_130_1 : t_ins 130 1 = some (.iload_n 1) := by decide +kernel
theorem i_130_2 : t_ins 130 2 = some (.invokevirtual 206) := by decide +kernel
theorem i_130_5 : t_ins 130 5 = some (.aload_n 0) := by decide +kernel
theorem i_130_6 : t_ins 130 6 = some (.iconst 1) := by decide +kernel
theorem i_130_7 : t_ins 130 7 = some (.iload_n 1) := by decide +kernel
theorem i_130_8 : t_ins 130 8 = some (.isub) := by decide +kernel
theorem i_130_9 : t_ins 130 9 = some (.invokevirtual 154) := by decide +kernel
theorem i_130_12 : t_ins 130 12 = some (.astore_n 3) := by decide +kernel
theorem i_130_13 : t_ins 130 13 = some (.aload_n 3) := by decide +kernel
theorem i_130_14 : t_ins 130 14 = some (.iload_n 2) := by decide +kernel
theorem i_130_15 : t_ins 130 15 = some (.invokevirtual 213) := by decide +kernel
theorem i_130_18 : t_ins 130 18 = some (.ifCond .ne 5) := by decide +kernel
theorem i_130_21 : t_ins 130 21 = some (.iconst (-1)) := by decide +kernel
theorem i_130_22 : t_ins 130 22 = some (.ireturn) := by decide +kernel
theorem i_130_23 : t_ins 130 23 = some (.aload_n 3) := by decide +kernel
theorem i_130_24 : t_ins 130 24 = some (.getfield 217) := by decide +kernel
theorem i_130_27 : t_ins 130 27 = some (.astore 4) := by decide +kernel
theorem i_130_29 : t_ins 130 29 = some (.aload_n 0) := by decide +kernel
theorem i_130_30 : t_ins 130 30 = some (.iload_n 1) := by decide +kernel
theorem i_130_31 : t_ins 130 31 = some (.invokevirtual 166) := by decide +kernel
theorem i_130_34 : t_ins 130 34 = some (.aload_n 0) := by decide +kernel
theorem i_130_35 : t_ins 130 35 = some (.getfield 19) := by decide +kernel
theorem i_130_38 : t_ins 130 38 = some (.getfield 137) := by decide +kernel
theorem i_130_41 : t_ins 130 41 = some (.invokevirtual 250) := by decide +kernel
theorem i_130_44 : t_ins 130 44 = some (.aload 4) := by decide +kernel
theorem i_130_46 : t_ins 130 46 = some (.getfield 300) := by decide +kernel
theorem i_130_49 : t_ins 130 49 = some (.aload 4) := by decide +kernel
theorem i_130_51 : t_ins 130 51 = some (.iload_n 2) := by decide +kernel
theorem i_130_52 : t_ins 130 52 = some (.invokevirtual 301) := by decide +kernel
theorem i_130_55 : t_ins 130 55 = some (.aload 4) := by decide +kernel
theorem i_130_57 : t_ins 130 57 = some (.iload_n 2) := by decide +kernel
theorem i_130_58 : t_ins 130 58 = some (.invokevirtual 221) := by decide +kernel
theorem i_130_61 : t_ins 130 61 = some (.invokevirtual 268) := by decide +kernel
theorem i_130_64 : t_ins 130 64 = some (.ireturn) := by decide +kernel
theorem q_130_0 : XX d 130 0 [some (.ref a), v1, v2, v3, v4] st A Q ↔ XX d 130 1 [some (.ref a), v1, v2, v3, v4] (.ref a :: st) A Q := c_lcl i_130_0 rfl rfl
theorem q_130_1 : XX d 130 1 [v0, some (.int x), v2, v3, v4] st A Q ↔ XX d 130 2 [v0, some (.int x), v2, v3, v4] (.int x :: st) A Q := c_lcl i_130_1 rfl rfl
theorem q_130_2 : XX (d + 1) 130 2 [v0, v1, v2, v3, v4] [.int x1, .ref a0] (mk S I L R G) Q ↔ S a0 = some (.inr 11) ∧ XC d 143 [.ref a0, .int x1] (mk S I L R G) (XK (d + 1) 130 2 [v0, v1, v2, v3, v4] [] Q) := c_callV i_130_2 rfl rfl rfl rfl (Nat.le_of_ble_eq_true rfl) (Nat.le_of_ble_eq_true rfl) rfl
theorem q_130_5 : XX d 130 5 [some (.ref a), v1, v2, v3, v4] st A Q ↔ XX d 130 6 [some (.ref a), v1, v2, v3, v4] (.ref a :: st) A Q := c_lcl i_130_5 rfl rfl
theorem q_130_6 : XX d 130 6 [v0, v1, v2, v3, v4] st A Q ↔ XX d 130 7 [v0, v1, v2, v3, v4] (.int (w 1) :: st) A Q := c_stk i_130_6 rfl
theorem q_130_7 : XX d 130 7 [v0, some (.int x), v2, v3, v4] st A Q ↔ XX d 130 8 [v0, some (.int x), v2, v3, v4] (.int x :: st) A Q := c_lcl i_130_7 rfl rfl
theorem q_130_8 : XX d 130 8 [v0, v1, v2, v3, v4] (.int y :: .int x :: st) A Q ↔ XX d 130 9 [v0, v1, v2, v3, v4] (.int (x - y) :: st) A Q := c_stk i_130_8 rfl
theorem q_130_9 : XX (d + 1) 130 9 [v0, v1, v2, v3, v4] [.int x1, .ref a0] (mk S I L R G) Q ↔ S a0 = some (.inr 11) ∧ XC d 142 [.ref a0, .int x1] (mk S I L R G) (XK (d + 1) 130 9 [v0, v1, v2, v3, v4] [] Q) := c_callV i_130_9 rfl rfl rfl rfl (Nat.le_of_ble_eq_true rfl) (Nat.le_of_ble_eq_true rfl) rfl
theorem q_130_12 : XX d 130 12 [v0, v1, some (.int z), v3, v4] (.ref a :: st) A Q ↔ XX d 130 13 [v0, v1, some (.int z), some (.ref a), v4] st A Q := c_lcl i_130_12 rfl rfl
theorem q_130_13 : XX d 130 13 [v0, v1, v2, some (.ref a), v4] st A Q ↔ XX d 130 14 [v0, v1, v2, some (.ref a), v4] (.ref a :: st) A Q := c_lcl i_130_13 rfl rfl
theorem q_130_14 : XX d 130 14 [v0, v1, some (.int x), v3, v4] st A Q ↔ XX d 130 15 [v0, v1, some (.int x), v3, v4] (.int x :: st) A Q := c_lcl i_130_14 rfl rfl
theorem q_130_15 : XX (d + 1) 130 15 [v0, v1, v2, v3, v4] [.int x1, .ref a0] (mk S I L R G) Q ↔ S a0 = some (.inr 9) ∧ XC d 84 [.ref a0, .int x1] (mk S I L R G) (XK (d + 1) 130 15 [v0, v1, v2, v3, v4] [] Q) := c_callV i_130_15 rfl rfl rfl rfl (Nat.le_of_ble_eq_true rfl) (Nat.le_of_ble_eq_true rfl) rfl
theorem q_130_18 : XX d 130 18 [v0, v1, v2, v3, v4] (.int x :: st) A Q ↔ if x = w 0 then XX d 130 21 [v0, v1, v2, v3, v4] st A Q else XX d 130 23 [v0, v1, v2, v3, v4] st A Q := z_ne i_130_18 rfl rfl rfl
theorem q_130_21 : XX d 130 21 [v0, v1, v2, v3, v4] st A Q ↔ XX d 130 22 [v0, v1, v2, v3, v4] (.int (w (-1)) :: st) A Q := c_stk i_130_21 rfl
theorem q_130_22 : XX d 130 22 [v0, v1, v2, v3, v4] [.int x] A Q ↔ Q (.inl (some (.int x))) A := e_retI i_130_22 rfl
theorem q_130_23 : XX d 130 23 [v0, v1, v2, some (.ref a), v4] st A Q ↔ XX d 130 24 [v0, v1, v2, some (.ref a), v4] (.ref a :: st) A Q := c_lcl i_130_23 rfl rfl
theorem q_130_24 : XX d 130 24 [v0, v1, v2, v3, v4] (.ref a :: st) (mk S I L R G) Q ↔ S a = some (.inr 9) ∧ XX d 130 27 [v0, v1, v2, v3, v4] (.ref (a + 1) :: st) (mk S I L R G) Q := r_gf i_130_24 rfl (by decide) rfl
theorem q_130_27 : XX d 130 27 [v0, v1, v2, some (.ref b), v4] (.ref a :: st) A Q ↔ XX d 130 29 [v0, v1, v2, some (.ref b), some (.ref a)] st A Q := c_lcl i_130_27 rfl rfl
theorem q_130_29 : XX d 130 29 [some (.ref a), v1, v2, v3, v4] st A Q ↔ XX d 130 30 [some (.ref a), v1, v2, v3, v4] (.ref a :: st) A Q := c_lcl i_130_29 rfl rfl
theorem q_130_30 : XX d 130 30 [v0, some (.int x), v2, v3, v4] st A Q ↔ XX d 130 31 [v0, some (.int x), v2, v3, v4] (.int x :: st) A Q := c_lcl i_130_30 rfl rfl
theorem q_130_31 : XX (d + 1) 130 31 [v0, v1, v2, v3, v4] [.int x1, .ref a0] (mk S I L R G) Q ↔ S a0 = some (.inr 11) ∧ XC d 141 [.ref a0, .int x1] (mk S I L R G) (XK (d + 1) 130 31 [v0, v1, v2, v3, v4] [] Q) := c_callV i_130_31 rfl rfl rfl rfl (Nat.le_of_ble_eq_true rfl) (Nat.le_of_ble_eq_true rfl) rfl
theorem q_130_34 : XX d 130 34 [some (.ref a), v1, v2, v3, v4] st A Q ↔ XX d 130 35 [some (.ref a), v1, v2, v3, v4] (.ref a :: st) A Q := c_lcl i_130_34 rfl rfl
theorem q_130_35 : XX d 130 35 [v0, v1, v2, v3, v4] (.ref a :: st) (mk S I L R G) Q ↔ S a = some (.inr 11) ∧ XX d 130 38 [v0, v1, v2, v3, v4] (.ref (a + 3) :: st) (mk S I L R G) Q := r_gf i_130_35 rfl (by decide) rfl
theorem q_130_38 : XX d 130 38 [v0, v1, v2, v3, v4] (.ref a :: st) (mk S I L R G) Q ↔ S a = some (.inr 0) ∧ XX d 130 41 [v0, v1, v2, v3, v4] (.int (I a 2) :: st) (mk S I L R G) Q := r_gf i_130_38 rfl (by decide) rfl
theorem q_130_41 : XX (d + 1) 130 41 [v0, v1, v2, v3, v4] [.int x1, .ref a0] (mk S I L R G) Q ↔ S a0 = some (.inr 5) ∧ XC d 43 [.ref a0, .int x1] (mk S I L R G) (XK (d + 1) 130 41 [v0, v1, v2, v3, v4] [] Q) := c_callV i_130_41 rfl rfl rfl rfl (Nat.le_of_ble_eq_true rfl) (Nat.le_of_ble_eq_true rfl) rfl
theorem q_130_44 : XX d 130 44 [v0, v1, v2, v3, some (.ref a)] st A Q ↔ XX d 130 46 [v0, v1, v2, v3, some (.ref a)] (.ref a :: st) A Q := c_lcl i_130_44 rfl rfl
theorem q_130_46 : XX d 130 46 [v0, v1, v2, v3, v4] (.ref a :: st) (mk S I L R G) Q ↔ S a = some (.inr 4) ∧ XX d 130 49 [v0, v1, v2, v3, v4] (.ref (a + 1) :: st) (mk S I L R G) Q := r_gf i_130_46 rfl (by decide) rfl
theorem q_130_49 : XX d 130 49 [v0, v1, v2, v3, some (.ref a)] st A Q ↔ XX d 130 51 [v0, v1, v2, v3, some (.ref a)] (.ref a :: st) A Q := c_lcl i_130_49 rfl rfl
theorem q_130_51 : XX d 130 51 [v0, v1, some (.int x), v3, v4] st A Q ↔ XX d 130 52 [v0, v1, some (.int x), v3, v4] (.int x :: st) A Q := c_lcl i_130_51 rfl rfl
theorem q_130_52 : XX (d + 1) 130 52 [v0, v1, v2, v3, v4] [.int x1, .ref a0, .ref a2, .ref a3] (mk S I L R G) Q ↔ S a0 = some (.inr 4) ∧ XC d 31 [.ref a0, .int x1] (mk S I L R G) (XK (d + 1) 130 52 [v0, v1, v2, v3, v4] [.ref a2, .ref a3] Q) := c_callV i_130_52 rfl rfl rfl rfl (Nat.le_of_ble_eq_true rfl) (Nat.le_of_ble_eq_true rfl) rfl
theorem q_130_55 : XX d 130 55 [v0, v1, v2, v3, some (.ref a)] st A Q ↔ XX d 130 57 [v0, v1, v2, v3, some (.ref a)] (.ref a :: st) A Q := c_lcl i_130_55 rfl rfl
theorem q_130_57 : XX d 130 57 [v0, v1, some (.int x), v3, v4] st A Q ↔ XX d 130 58 [v0, v1, some (.int x), v3, v4] (.int x :: st) A Q := c_lcl i_130_57 rfl rfl
theorem q_130_58 : XX (d + 1) 130 58 [v0, v1, v2, v3, v4] [.int x1, .ref a0, .int x2, .ref a3, .ref a4] (mk S I L R G) Q ↔ S a0 = some (.inr 4) ∧ XC d 32 [.ref a0, .int x1] (mk S I L R G) (XK (d + 1) 130 58 [v0, v1, v2, v3, v4] [.int x2, .ref a3, .ref a4] Q) := c_callV i_130_58 rfl rfl rfl rfl (Nat.le_of_ble_eq_true rfl) (Nat.le_of_ble_eq_true rfl) rfl
theorem q_130_61 : XX (d + 1) 130 61 [v0, v1, v2, v3, v4] [.int x3, .int x2, .ref a1, .ref a0] (mk S I L R G) Q ↔ S a0 = some (.inr 5) ∧ XC d 48 [.ref a0, .ref a1, .int x2, .int x3] (mk S I L R G) (XK (d + 1) 130 61 [v0, v1, v2, v3, v4] [] Q) := c_callV i_130_61 rfl rfl rfl rfl (Nat.le_of_ble_eq_true rfl) (Nat.le_of_ble_eq_true rfl) rfl
theorem q_130_64 : XX d 130 64 [v0, v1, v2, v3, v4] [.int x] A Q ↔ Q (.inl (some (.int x))) A := e_retI i_130_64 rfl
theorem q_130_e : XC d 130 [.ref a0, .int x1, .int x2] A Q ↔ XX d 130 0 [some (.ref a0), some (.int x1), some (.int x2), none, none] [] A Q := Iff.rfl
theorem i_131_0 : t_ins 131 0 = some (.aload_n 0) := by decide +kernel
theorem i_131_1 : t_ins 131 1 = some (.getfield 40) := by decide +kernel
theorem i_131_4 : t_ins 131 4 = some (.getfield 170) := by decide +kernel
theorem i_131_7 : t_ins 131 7 = some (.astore_n 1) := by decide +kernel
theorem i_131_8 : t_ins 131 8 = some (.aload_n 0) := by decide +kernel
theorem i_131_9 : t_ins 131 9 = some (.getfield 44) := by decide +kernel
theorem i_131_12 : t_ins 131 12 = some (.getfield 170) := by decide +kernel
theorem i_131_15 : t_ins 131 15 = some (.astore_n 2) := by decide +kernel
theorem i_131_16 : t_ins 131 16 = some (.iconst 0) := by decide +kernel
theorem i_131_17 : t_ins 131 17 = some (.istore_n 3) := by decide +kernel
theorem i_131_18 : t_ins 131 18 = some (.iconst 0) := by decide +kernel
theorem i_131_19 : t_ins 131 19 = some (.istore 4) := by decide +kernel
theorem i_131_21 : t_ins 131 21 = some (.iload 4) := by decide +kernel
theorem i_131_23 : t_ins 131 23 = some (.aload_n 0) := by decide +kernel
theorem i_131_24 : t_ins 131 24 = some (.getfield 19) := by decide +kernel
theorem i_131_27 : t_ins 131 27 = some (.getfield 137) := by decide +kernel
theorem i_131_30 : t_ins 131 30 = some (.if_icmp .gt 46) := by decide +kernel
theorem i_131_33 : t_ins 131 33 = some (.aload_n 1) := by decide +kernel
theorem i_131_34 : t_ins 131 34 = some (.iload 4) := by decide +kernel
theorem i_131_36 : t_ins 131 36 = some (.invokevirtual 213) := by decide +kernel
theorem i_131_39 : t_ins 131 39 = some (.ifCond .eq 31) := by decide +kernel
theorem i_131_42 : t_ins 131 42 = some (.aload_n 2) := by decide +kernel
theorem i_131_43 : t_ins 131 43 = some (.iload 4) := by decide +kernel
theorem i_131_45 : t_ins 131 45 = some (.invokevirtual 213) := by decide +kernel
theorem i_131_48 : t_ins 131 48 = some (.ifCond .eq 22) := by decide +kernel
theorem i_131_51 : t_ins 131 51 = some (.aload_n 1) := by decide +kernel
theorem i_131_52 : t_ins 131 52 = some (.getfield 217) := by decide +kernel
theorem i_131_55 : t_ins 131 55 = some (.aload_n 2) := by decide +kernel
theorem i_131_56 : t_ins 131 56 = some (.getfield 217) := by decide +kernel
theorem i_131_59 : t_ins 131 59 = some (.iload 4) := by decide +kernel
theorem i_131_61 : t_ins 131 61 = some (.invokevirtual 304) := by decide +kernel
theorem i_131_64 : t_ins 131 64 = some (.ifCond .eq 6) := by decide +kernel
theorem i_131_67 : t_ins 131 67 = some (.iinc 3 1) := by decide +kernel
theorem i_131_70 : t_ins 131 70 = some (.iinc 4 1) := by decide +kernel
theorem i_131_73 : t_ins 131 73 = some (.goto (-52)) := by decide +kernel
theorem i_131_76 : t_ins 131 76 = some (.iload_n 3) := by decide +kernel
theorem i_131_77 : t_ins 131 77 = some (.ireturn) := by decide +kernel
theorem q_131_0 : XX d 131 0 [some (.ref a), v1, v2, v3, v4] st A Q ↔ XX d 131 1 [some (.ref a), v1, v2, v3, v4] (.ref a :: st) A Q := c_lcl i_131_0 rfl rfl
theorem q_131_1 : XX d 131 1 [v0, v1, v2, v3, v4] (.ref a :: st) (mk S I L R G) Q ↔ S a = some (.inr 11) ∧ XX d 131 4 [v0, v1, v2, v3, v4] (.ref (a + 51) :: st) (mk S I L R G) Q := r_gf i_131_1 rfl (by decide) rfl
theorem q_131_4 : XX d 131 4 [v0, v1, v2, v3, v4] (.ref a :: st) (mk S I L R G) Q ↔ S a = some (.inr 5) ∧ XX d 131 7 [v0, v1, v2, v3, v4] (.ref (a + 1) :: st) (mk S I L R G) Q := r_gf i_131_4 rfl (by decide) rfl
theorem q_131_7 : XX d 131 7 [some (.ref b), v1, v2, v3, v4] (.ref a :: st) A Q ↔ XX d 131 8 [some (.ref b), some (.ref a), v2, v3, v4] st A Q := c_lcl i_131_7 rfl rfl
theorem q_131_8 : XX d 131 8 [some (.ref a), v1, v2, v3, v4] st A Q ↔ XX d 131 9 [some (.ref a), v1, v2, v3, v4] (.ref a :: st) A Q := c_lcl i_131_8 rfl rfl
theorem q_131_9 : XX d 131 9 [v0, v1, v2, v3, v4] (.ref a :: st) (mk S I L R G) Q ↔ S a = some (.inr 11) ∧ XX d 131 12 [v0, v1, v2, v3, v4] (.ref (a + 71) :: st) (mk S I L R G) Q := r_gf i_131_9 rfl (by decide) rfl
theorem q_131_12 : XX d 131 12 [v0, v1, v2, v3, v4] (.ref a :: st) (mk S I L R G) Q ↔ S a = some (.inr 5) ∧ XX d 131 15 [v0, v1, v2, v3, v4] (.ref (a + 1) :: st) (mk S I L R G) Q := r_gf i_131_12 rfl (by decide) rfl
theorem q_131_15 : XX d 131 15 [v0, some (.ref b), v2, v3, v4] (.ref a :: st) A Q ↔ XX d 131 16 [v0, some (.ref b), some (.ref a), v3, v4] st A Q := c_lcl i_131_15 rfl rfl
theorem q_131_16 : XX d 131 16 [v0, v1, v2, v3, v4] st A Q ↔ XX d 131 17 [v0, v1, v2, v3, v4] (.int (w 0) :: st) A Q := c_stk i_131_16 rfl
theorem q_131_17 : XX d 131 17 [v0, v1, some (.ref b), v3, v4] (.int x :: st) A Q ↔ XX d 131 18 [v0, v1, some (.ref b), some (.int x), v4] st A Q := c_lcl i_131_17 rfl rfl
theorem q_131_18 : XX d 131 18 [v0, v1, v2, v3, v4] st A Q ↔ XX d 131 19 [v0, v1, v2, v3, v4] (.int (w 0) :: st) A Q := c_stk i_131_18 rfl
theorem q_131_19 : XX d 131 19 [v0, v1, v2, some (.int z), v4] (.int x :: st) A Q ↔ XX d 131 21 [v0, v1, v2, some (.int z), some (.int x)] st A Q := c_lcl i_131_19 rfl rfl
theorem q_131_21 : XX d 131 21 [v0, v1, v2, v3, some (.int x)] st A Q ↔ XX d 131 23 [v0, v1, v2, v3, some (.int x)] (.int x :: st) A Q := c_lcl i_131_21 rfl rfl
theorem q_131_23 : XX d 131 23 [some (.ref a), v1, v2, v3, v4] st A Q ↔ XX d 131 24 [some (.ref a), v1, v2, v3, v4] (.ref a :: st) A Q := c_lcl i_131_23 rfl rfl
theorem q_131_24 : XX d 131 24 [v0, v1, v2, v3, v4] (.ref a :: st) (mk S I L R G) Q ↔ S a = some (.inr 11) ∧ XX d 131 27 [v0, v1, v2, v3, v4] (.ref (a + 3) :: st) (mk S I L R G) Q := r_gf i_131_24 rfl (by decide) rfl
theorem q_131_27 : XX d 131 27 [v0, v1, v2, v3, v4] (.ref a :: st) (mk S I L R G) Q ↔ S a = some (.inr 0) ∧ XX d 131 30 [v0, v1, v2, v3, v4] (.int (I a 2) :: st) (mk S I L R G) Q := r_gf i_131_27 rfl (by decide) rfl
theorem q_131_30 : XX d 131 30 [v0, v1, v2, v3, v4] (.int y :: .int x :: st) A Q ↔ if y < x then XX d 131 76 [v0, v1, v2, v3, v4] st A Q else XX d 131 33 [v0, v1, v2, v3, v4] st A Q := b_gt i_131_30 rfl rfl rfl
theorem q_131_33 : XX d 131 33 [v0, some (.ref a), v2, v3, v4] st A Q ↔ XX d 131 34 [v0, some (.ref a), v2, v3, v4] (.ref a :: st) A Q := c_lcl i_131_33 rfl rfl
theorem q_131_34 : XX d 131 34 [v0, v1, v2, v3, some (.int x)] st A Q ↔ XX d 131 36 [v0, v1, v2, v3, some (.int x)] (.int x :: st) A Q := c_lcl i_131_34 rfl rfl
theorem q_131_36 : XX (d + 1) 131 36 [v0, v1, v2, v3, v4] [.int x1, .ref a0] (mk S I L R G) Q ↔ S a0 = some (.inr 9) ∧ XC d 84 [.ref a0, .int x1] (mk S I L R G) (XK (d + 1) 131 36 [v0, v1, v2, v3, v4] [] Q) := c_callV i_131_36 rfl rfl rfl rfl (Nat.le_of_ble_eq_true rfl) (Nat.le_of_ble_eq_true rfl) rfl
theorem q_131_39 : XX d 131 39 [v0, v1, v2, v3, v4] (.int x :: st) A Q ↔ if x = w 0 then XX d 131 70 [v0, v1, v2, v3, v4] st A Q else XX d 131 42 [v0, v1, v2, v3, v4] st A Q := z_eq i_131_39 rfl rfl rfl
theorem q_131_42 : XX d 131 42 [v0, v1, some (.ref a), v3, v4] st A Q ↔ XX d 131 43 [v0, v1, some (.ref a), v3, v4] (.ref a :: st) A Q := c_lcl i_131_42 rfl rfl
theorem q_131_43 : XX d 131 43 [v0, v1, v2, v3, some (.int x)] st A Q ↔ XX d 131 45 [v0, v1, v2, v3, some (.int x)] (.int x :: st) A Q := c_lcl i_131_43 rfl rfl
theorem q_131_45 : XX (d + 1) 131 45 [v0, v1, v2, v3, v4] [.int x1, .ref a0] (mk S I L R G) Q ↔ S a0 = some (.inr 9) ∧ XC d 84 [.ref a0, .int x1] (mk S I L R G) (XK (d + 1) 131 45 [v0, v1, v2, v3, v4] [] Q) := c_callV i_131_45 rfl rfl rfl rfl (Nat.le_of_ble_eq_true rfl) (Nat.le_of_ble_eq_true rfl) rfl
theorem q_131_48 : XX d 131 48 [v0, v1, v2, v3, v4] (.int x :: st) A Q ↔ if x = w 0 then XX d 131 70 [v0, v1, v2, v3, v4] st A Q else XX d 131 51 [v0, v1, v2, v3, v4] st A Q := z_eq i_131_48 rfl rfl rfl
theorem q_131_51 : XX d 131 51 [v0, some (.ref a), v2, v3, v4] st A Q ↔ XX d 131 52 [v0, some (.ref a), v2, v3, v4] (.ref a :: st) A Q := c_lcl i_131_51 rfl rfl
theorem q_131_52 : XX d 131 52 [v0, v1, v2, v3, v4] (.ref a :: st) (mk S I L R G) Q ↔ S a = some (.inr 9) ∧ XX d 131 55 [v0, v1, v2, v3, v4] (.ref (a + 1) :: st) (mk S I L R G) Q := r_gf i_131_52 rfl (by decide) rfl
theorem q_131_55 : XX d 131 55 [v0, v1, some (.ref a), v3, v4] st A Q ↔ XX d 131 56 [v0, v1, some (.ref a), v3, v4] (.ref a :: st) A Q := c_lcl i_131_55 rfl rfl
theorem q_131_56 : XX d 131 56 [v0, v1, v2, v3, v4] (.ref a :: st) (mk S I L R G) Q ↔ S a = some (.inr 9) ∧ XX d 131 59 [v0, v1, v2, v3, v4] (.ref (a + 1) :: st) (mk S I L R G) Q := r_gf i_131_56 rfl (by decide) rfl
theorem q_131_59 : XX d 131 59 [v0, v1, v2, v3, some (.int x)] st A Q ↔ XX d 131 61 [v0, v1, v2, v3, some (.int x)] (.int x :: st) A Q := c_lcl i_131_59 rfl rfl
theorem q_131_61 : XX (d + 1) 131 61 [v0, v1, v2, v3, v4] [.int x2, .ref a1, .ref a0] (mk S I L R G) Q ↔ S a0 = some (.inr 4) ∧ XC d 40 [.ref a0, .ref a1, .int x2] (mk S I L R G) (XK (d + 1) 131 61 [v0, v1, v2, v3, v4] [] Q) := c_callV i_131_61 rfl rfl rfl rfl (Nat.le_of_ble_eq_true rfl) (Nat.le_of_ble_eq_true rfl) rfl
theorem q_131_64 : XX d 131 64 [v0, v1, v2, v3, v4] (.int x :: st) A Q ↔ if x = w 0 then XX d 131 70 [v0, v1, v2, v3, v4] st A Q else XX d 131 67 [v0, v1, v2, v3, v4] st A Q := z_eq i_131_64 rfl rfl rfl
theorem q_131_67 : XX d 131 67 [v0, v1, some (.ref b), some (.int x), v4] st A Q ↔ XX d 131 70 [v0, v1, some (.ref b), some (.int (x + w 1)), v4] st A Q := c_lcl i_131_67 rfl rfl
theorem q_131_70 : XX d 131 70 [v0, v1, v2, some (.int z), some (.int x)] st A Q ↔ XX d 131 73 [v0, v1, v2, some (.int z), some (.int (x + w 1))] st A Q := c_lcl i_131_70 rfl rfl
theorem q_131_73 : XX d 131 73 [v0, v1, v2, v3, v4] st A Q ↔ XX d 131 21 [v0, v1, v2, v3, v4] st A Q := c_go i_131_73 rfl rfl
theorem q_131_76 : XX d 131 76 [v0, v1, v2, some (.int x), v4] st A Q ↔ XX d 131 77 [v0, v1, v2, some (.int x), v4] (.int x :: st) A Q := c_lcl i_131_76 rfl rfl
theorem q_131_77 : XX d 131 77 [v0, v1, v2, v3, v4] [.int x] A Q ↔ Q (.inl (some (.int x))) A := e_retI i_131_77 rfl
theorem q_131_e : XC d 131 [.ref a0] A Q ↔ XX d 131 0 [some (.ref a0), none, none, none, none] [] A Q := Iff.rfl
theorem i_132_0 : t_ins 132 0 = some (.aload_n 0) := by decide +kernel
theorem i_132_1 : t_ins 132 1 = some (.iload_n 1) := by decide +kernel
theorem i_132_2 : t_ins 132 2 = some (.invokevirtual 206) := by decide +kernel
theorem i_132_5 : t_ins 132 5 = some (.aload_n 0) := by decide +kernel
theorem i_132_6 : t_ins 132 6 = some (.iload_n 1) := by decide +kernel
theorem i_132_7 : t_ins 132 7 = some (.invokevirtual 166) := by decide +kernel
theorem i_132_10 : t_ins 132 10 = some (.aload_n 0) := by decide +kernel
theorem i_132_11 : t_ins 132 11 = some (.getfield 19) := by decide +kernel
theorem i_132_14 : t_ins 132 14 = some (.getfield 137) := by decide +kernel
theorem i_132_17 : t_ins 132 17 = some (.invokevirtual 250) := by decide +kernel
theorem i_132_20 : t_ins 132 20 = some (.iload_n 2) := by decide +kernel
theorem i_132_21 : t_ins 132 21 = some (.invokevirtual 308) := by decide +kernel
theorem i_132_24 : t_ins 132 24 = some (.ireturn) := by decide +kernel
theorem q_132_0 : XX d 132 0 [some (.ref a), v1, v2] st A Q ↔ XX d 132 1 [some (.ref a), v1, v2] (.ref a :: st) A Q := c_lcl i_132_0 rfl rfl
theorem q_132_1 : XX d 132 1 [v0, some (.int x), v2] st A Q ↔ XX d 132 2 [v0, some (.int x), v2] (.int x :: st) A Q := c_lcl i_132_1 rfl rfl
theorem q_132_2 : XX (d + 1) 132 2 [v0, v1, v2] [.int x1, .ref a0] (mk S I L R G) Q ↔ S a0 = some (.inr 11) ∧ XC d 143 [.ref a0, .int x1] (mk S I L R G) (XK (d + 1) 132 2 [v0, v1, v2] [] Q) := c_callV i_132_2 rfl rfl rfl rfl (Nat.le_of_ble_eq_true rfl) (Nat.le_of_ble_eq_true rfl) rfl
theorem q_132_5 : XX d 132 5 [some (.ref a), v1, v2] st A Q ↔ XX d 132 6 [some (.ref a), v1, v2] (.ref a :: st) A Q := c_lcl i_132_5 rfl rfl
theorem q_132_6 : XX d 132 6 [v0, some (.int x), v2] st A Q ↔ XX d 132 7 [v0, some (.int x), v2] (.int x :: st) A Q := c_lcl i_132_6 rfl rfl
theorem q_132_7 : XX (d + 1) 132 7 [v0, v1, v2] [.int x1, .ref a0] (mk S I L R G) Q ↔ S a0 = some (.inr 11) ∧ XC d 141 [.ref a0, .int x1] (mk S I L R G) (XK (d + 1) 132 7 [v0, v1, v2] [] Q) := c_callV i_132_7 rfl rfl rfl rfl (Nat.le_of_ble_eq_true rfl) (Nat.le_of_ble_eq_true rfl) rfl
theorem q_132_10 : XX d 132 10 [some (.ref a), v1, v2] st A Q ↔ XX d 132 11 [some (.ref a), v1, v2] (.ref a :: st) A Q := c_lcl i_132_10 rfl rfl
theorem q_132_11 : XX d 132 11 [v0, v1, v2] (.ref a :: st) (mk S I L R G) Q ↔ S a = some (.inr 11) ∧ XX d 132 14 [v0, v1, v2] (.ref (a + 3) :: st) (mk S I L R G) Q := r_gf i_132_11 rfl (by decide) rfl
theorem q_132_14 : XX d 132 14 [v0, v1, v2] (.ref a :: st) (mk S I L R G) Q ↔ S a = some (.inr 0) ∧ XX d 132 17 [v0, v1, v2] (.int (I a 2) :: st) (mk S I L R G) Q := r_gf i_132_14 rfl (by decide) rfl
theorem q_132_17 : XX (d + 1) 132 17 [v0, v1, v2] [.int x1, .ref a0] (mk S I L R G) Q ↔ S a0 = some (.inr 5) ∧ XC d 43 [.ref a0, .int x1] (mk S I L R G) (XK (d + 1) 132 17 [v0, v1, v2] [] Q) := c_callV i_132_17 rfl rfl rfl rfl (Nat.le_of_ble_eq_true rfl) (Nat.le_of_ble_eq_true rfl) rfl
theorem q_132_20 : XX d 132 20 [v0, v1, some (.int x)] st A Q ↔ XX d 132 21 [v0, v1, some (.int x)] (.int x :: st) A Q := c_lcl i_132_20 rfl rfl
theorem q_132_21 : XX (d + 1) 132 21 [v0, v1, v2] [.int x1, .ref a0] (mk S I L R G) Q ↔ S a0 = some (.inr 5) ∧ XC d 47 [.ref a0, .int x1] (mk S I L R G) (XK (d + 1) 132 21 [v0, v1, v2] [] Q) := c_callV i_132_21 rfl rfl rfl rfl (Nat.le_of_ble_eq_true rfl) (Nat.le_of_ble_eq_true rfl) rfl
theorem q_132_24 : XX d 132 24 [v0, v1, v2] [.int x] A Q ↔ Q (.inl (some (.int x))) A := e_retI i_132_24 rfl
theorem q_132_e : XC d 132 [.ref a0, .int x1, .int x2] A Q ↔ XX d 132 0 [some (.ref a0), some (.int x1), some (.int x2)] [] A Q := Iff.rfl
theorem i_133_0 : t_ins 133 0 = some (.aload_n 0) := by decide +kernel
theorem i_133_1 : t_ins 133 1 = some (.iload_n 1) := by decide +kernel
theorem i_133_2 : t_ins 133 2 = some (.invokevirtual 206) := by decide +kernel
theorem i_133_5 : t_ins 133 5 = some (.aload_n 0) := by decide +kernel
theorem i_133_6 : t_ins 133 6 = some (.iload_n 2) := by decide +kernel
theorem i_133_7 : t_ins 133 7 = some (.iconst 0) := by decide +kernel
theorem i_133_8 : t_ins 133 8 = some (.iconst 1) := by decide +kernel
theorem i_133_9 : t_ins 133 9 = some (.invokevirtual 89) := by decide +kernel
theorem i_133_12 : t_ins 133 12 = some (.aload_n 0) := by decide +kernel
theorem i_133_13 : t_ins 133 13 = some (.iload_n 1) := by decide +kernel
theorem i_133_14 : t_ins 133 14 = some (.invokevirtual 154) := by decide +kernel
theorem i_133_17 : t_ins 133 17 = some (.astore_n 3) := by decide +kernel
theorem i_133_18 : t_ins 133 18 = some (.iconst (-1)) := by decide +kernel
theorem i_133_19 : t_ins 133 19 = some (.istore 4) := by decide +kernel
theorem i_133_21 : t_ins 133 21 = some (.iconst 0) := by decide +kernel
theorem i_133_22 : t_ins 133 22 = some (.istore 5) := by decide +kernel
theorem i_133_24 : t_ins 133 24 = some (.iconst 0) := by decide +kernel
theorem i_133_25 : t_ins 133 25 = some (.istore 6) := by decide +kernel
theorem i_133_27 : t_ins 133 27 = some (.iload 6) := by decide +kernel
theorem i_133_29 : t_ins 133 29 = some (.aload_n 0) := by decide +kernel
theorem i_133_30 : t_ins 133 30 = some (.getfield 19) := by decide +kernel
theorem i_133_33 : t_ins 133 33 = some (.getfield 137) := by decide +kernel
theorem i_133_36 : t_ins 133 36 = some (.if_icmp .gt 84) := by decide +kernel
theorem i_133_39 : t_ins 133 39 = some (.aload_n 3) := by decide +kernel
theorem i_133_40 : t_ins 133 40 = some (.iload 6) := by decide +kernel
theorem i_133_42 : t_ins 133 42 = some (.invokevirtual 213) := by decide +kernel
theorem i_133_45 : t_ins 133 45 = some (.ifCond .ne 6) := by decide +kernel
theorem i_133_48 : t_ins 133 48 = some (.goto 66) := by decide +kernel
theorem i_133_51 : t_ins 133 51 = some (.aload_n 3) := by decide +kernel
theorem i_133_52 : t_ins 133 52 = some (.getfield 217) := by decide +kernel
theorem i_133_55 : t_ins 133 55 = some (.iload 6) := by decide +kernel
theorem i_133_57 : t_ins 133 57 = some (.invokevirtual 221) := by decide +kernel
theorem i_133_60 : t_ins 133 60 = some (.istore 7) := by decide +kernel
theorem i_133_62 : t_ins 133 62 = some (.iload_n 2) := by decide +kernel
theorem i_133_63 : t_ins 133 63 = some (.ifCond .ne 18) := by decide +kernel
theorem i_133_66 : t_ins 133 66 = some (.iload 7) := by decide +kernel
theorem i_133_68 : t_ins 133 68 = some (.iload 5) := by decide +kernel
theorem i_133_70 : t_ins 133 70 = some (.if_icmp .le 7) := by decide +kernel
theorem i_133_73 : t_ins 133 73 = some (.iconst 1) := by decide +kernel
theorem i_133_74 : t_ins 133 74 = some (.goto 19) := by decide +kernel
theorem i_133_77 : t_ins 133 77 = some (.iconst 0) := by decide +kernel
theorem i_133_78 : t_ins 133 78 = some (.goto 15) := by decide +kernel
theorem i_133_81 : t_ins 133 81 = some (.iload 7) := by decide +kernel
theorem i_133_83 : t_ins 133 83 = some (.iload 5) := by decide +kernel
theorem i_133_85 : t_ins 133 85 = some (.if_icmp .ge 7) := by decide +kernel
theorem i_133_88 : t_ins 133 88 = some (.iconst 1) := by decide +kernel
theorem i_133_89 : t_ins 133 89 = some (.goto 4) := by decide +kernel
theorem i_133_92 : t_ins 133 92 = some (.iconst 0) := by decide +kernel
theorem i_133_93 : t_ins 133 93 = some (.istore 8) := by decide +kernel
theorem i_133_95 : t_ins 133 95 = some (.iload 4) := by decide +kernel
theorem i_133_97 : t_ins 133 97 = some (.iconst (-1)) := by decide +kernel
theorem i_133_98 : t_ins 133 98 = some (.if_icmp .eq 8) := by decide +kernel
theorem i_133_101 : t_ins 133 101 = some (.iload 8) := by decide +kernel
theorem i_133_103 : t_ins 133 103 = some (.ifCond .eq 11) := by decide +kernel
theorem i_133_106 : t_ins 133 106 = some (.iload 6) := by decide +kernel
theorem i_133_108 : t_ins 133 108 = some (.istore 4) := by decide +kernel
theorem i_133_110 : t_ins 133 110 = some (.iload 7) := by decide +kernel
theorem i_133_112 : t_ins 133 112 = some (.istore 5) := by decide +kernel
theorem i_133_114 : t_ins 133 114 = some (.iinc 6 1) := by decide +kernel
theorem i_133_117 : t_ins 133 117 = some (.goto (-90)) := by decide +kernel
theorem i_133_120 : t_ins 133 120 = some (.iload 4) := by decide +kernel
theorem i_133_122 : t_ins 133 122 = some (.ireturn) := by decide +kernel
theorem q_133_0 : XX d 133 0 [some (.ref a), v1, v2, v3, v4, v5, v6, v7, v8] st A Q ↔ XX d 133 1 [some (.ref a), v1, v2, v3, v4, v5, v6, v7, v8] (.ref a :: st) A Q := c_lcl i_133_0 rfl rfl
theorem q_133_1 : XX d 133 1 [v0, some (.int x), v2, v3, v4, v5, v6, v7, v8] st A Q ↔ XX d 133 2 [v0, some (.int x), v2, v3, v4, v5, v6, v7, v8] (.int x :: st) A Q := c_lcl i_133_1 rfl rfl
theorem q_133_2 : XX (d + 1) 133 2 [v0, v1, v2, v3, v4, v5, v6, v7, v8] [.int x1, .ref a0] (mk S I L R G) Q ↔ S a0 = some (.inr 11) ∧ XC d 143 [.ref a0, .int x1] (mk S I L R G) (XK (d + 1) 133 2 [v0, v1, v2, v3, v4, v5, v6, v7, v8] [] Q) := c_callV i_133_2 rfl rfl rfl rfl (Nat.le_of_ble_eq_true rfl) (Nat.le_of_ble_eq_true rfl) rfl
theorem q_133_5 : XX d 133 5 [some (.ref a), v1, v2, v3, v4, v5, v6, v7, v8] st A Q ↔ XX d 133 6 [some (.ref a), v1, v2, v3, v4, v5, v6, v7, v8] (.ref a :: st) A Q := c_lcl i_133_5 rfl rfl
theorem q_133_6 : XX d 133 6 [v0, v1, some (.int x), v3, v4, v5, v6, v7, v8] st A Q ↔ XX d 133 7 [v0, v1, some (.int x), v3, v4, v5, v6, v7, v8] (.int x :: st) A Q := c_lcl i_133_6 rfl rfl
theorem q_133_7 : XX d 133 7 [v0, v1, v2, v3, v4, v5, v6, v7, v8] st A Q ↔ XX d 133 8 [v0, v1, v2, v3, v4, v5, v6, v7, v8] (.int (w 0) :: st) A Q := c_stk i_133_7 rfl
theorem q_133_8 : XX d 133 8 [v0, v1, v2, v3, v4, v5, v6, v7, v8] st A Q ↔ XX d 133 9 [v0, v1, v2, v3, v4, v5, v6, v7, v8] (.int (w 1) :: st) A Q := c_stk i_133_8 rfl
theorem q_133_9 : XX (d + 1) 133 9 [v0, v1, v2, v3, v4, v5, v6, v7, v8] [.int x3, .int x2, .int x1, .ref a0] (mk S I L R G) Q ↔ S a0 = some (.inr 11) ∧ XC d 146 [.ref a0, .int x1, .int x2, .int x3] (mk S I L R G) (XK (d + 1) 133 9 [v0, v1, v2, v3, v4, v5, v6, v7, v8] [] Q) := c_callV i_133_9 rfl rfl rfl rfl (Nat.le_of_ble_eq_true rfl) (Nat.le_of_ble_eq_true rfl) rfl
theorem q_133_12 : XX d 133 12 [some (.ref a), v1, v2, v3, v4, v5, v6, v7, v8] st A Q ↔ XX d 133 13 [some (.ref a), v1, v2, v3, v4, v5, v6, v7, v8] (.ref a :: st) A Q := c_lcl i_133_12 rfl rfl
theorem q_133_13 : XX d 133 13 [v0, some (.int x), v2, v3, v4, v5, v6, v7, v8] st A Q ↔ XX d 133 14 [v0, some (.int x), v2, v3, v4, v5, v6, v7, v8] (.int x :: st) A Q := c_lcl i_133_13 rfl rfl
theorem q_133_14 : XX (d + 1) 133 14 [v0, v1, v2, v3, v4, v5, v6, v7, v8] [.int x1, .ref a0] (mk S I L R G) Q ↔ S a0 = some (.inr 11) ∧ XC d 142 [.ref a0, .int x1] (mk S I L R G) (XK (d + 1) 133 14 [v0, v1, v2, v3, v4, v5, v6, v7, v8] [] Q) := c_callV i_133_14 rfl rfl rfl rfl (Nat.le_of_ble_eq_true rfl) (Nat.le_of_ble_eq_true rfl) rfl
theorem q_133_17 : XX d 133 17 [v0, v1, some (.int z), v3, v4, v5, v6, v7, v8] (.ref a :: st) A Q ↔ XX d 133 18 [v0, v1, some (.int z), some (.ref a), v4, v5, v6, v7, v8] st A Q := c_lcl i_133_17 rfl rfl
theorem q_133_18 : XX d 133 18 [v0, v1, v2, v3, v4, v5, v6, v7, v8] st A Q ↔ XX d 133 19 [v0, v1, v2, v3, v4, v5, v6, v7, v8] (.int (w (-1)) :: st) A Q := c_stk i_133_18 rfl
theorem q_133_19 : XX d 133 19 [v0, v1, v2, some (.ref b), v4, v5, v6, v7, v8] (.int x :: st) A Q ↔ XX d 133 21 [v0, v1, v2, some (.ref b), some (.int x), v5, v6, v7, v8] st A Q := c_lcl i_133_19 rfl rfl
theorem q_133_21 : XX d 133 21 [v0, v1, v2, v3, v4, v5, v6, v7, v8] st A Q ↔ XX d 133 22 [v0, v1, v2, v3, v4, v5, v6, v7, v8] (.int (w 0) :: st) A Q := c_stk i_133_21 rfl
theorem q_133_22 : XX d 133 22 [v0, v1, v2, v3, some (.int z), v5, v6, v7, v8] (.int x :: st) A Q ↔ XX d 133 24 [v0, v1, v2, v3, some (.int z), some (.int x), v6, v7, v8] st A Q := c_lcl i_133_22 rfl rfl
theorem q_133_24 : XX d 133 24 [v0, v1, v2, v3, v4, v5, v6, v7, v8] st A Q ↔ XX d 133 25 [v0, v1, v2, v3, v4, v5, v6, v7, v8] (.int (w 0) :: st) A Q := c_stk i_133_24 rfl
theorem q_133_25 : XX d 133 25 [v0, v1, v2, v3, v4, some (.int z), v6, v7, v8] (.int x :: st) A Q ↔ XX d 133 27 [v0, v1, v2, v3, v4, some (.int z), some (.int x), v7, v8] st A Q := c_lcl i_133_25 rfl rfl
theorem q_133_27 : XX d 133 27 [v0, v1, v2, v3, v4, v5, some (.int x), v7, v8] st A Q ↔ XX d 133 29 [v0, v1, v2, v3, v4, v5, some (.int x), v7, v8] (.int x :: st) A Q := c_lcl i_133_27 rfl rfl
theorem q_133_29 : XX d 133 29 [some (.ref a), v1, v2, v3, v4, v5, v6, v7, v8] st A Q ↔ XX d 133 30 [some (.ref a), v1, v2, v3, v4, v5, v6, v7, v8] (.ref a :: st) A Q := c_lcl i_133_29 rfl rfl
theorem q_133_30 : XX d 133 30 [v0, v1, v2, v3, v4, v5, v6, v7, v8] (.ref a :: st) (mk S I L R G) Q ↔ S a = some (.inr 11) ∧ XX d 133 33 [v0, v1, v2, v3, v4, v5, v6, v7, v8] (.ref (a + 3) :: st) (mk S I L R G) Q := r_gf i_133_30 rfl (by decide) rfl
theorem q_133_33 : XX d 133 33 [v0, v1, v2, v3, v4, v5, v6, v7, v8] (.ref a :: st) (mk S I L R G) Q ↔ S a = some (.inr 0) ∧ XX d 133 36 [v0, v1, v2, v3, v4, v5, v6, v7, v8] (.int (I a 2) :: st) (mk S I L R G) Q := r_gf i_133_33 rfl (by decide) rfl
theorem q_133_36 : XX d 133 36 [v0, v1, v2, v3, v4, v5, v6, v7, v8] (.int y :: .int x :: st) A Q ↔ if y < x then XX d 133 120 [v0, v1, v2, v3, v4, v5, v6, v7, v8] st A Q else XX d 133 39 [v0, v1, v2, v3, v4, v5, v6, v7, v8] st A Q := b_gt i_133_36 rfl rfl rfl
theorem q_133_39 : XX d 133 39 [v0, v1, v2, some (.ref a), v4, v5, v6, v7, v8] st A Q ↔ XX d 133 40 [v0, v1, v2, some (.ref a), v4, v5, v6, v7, v8] (.ref a :: st) A Q := c_lcl i_133_39 rfl rfl
theorem q_133_40 : XX d 133 40 [v0, v1, v2, v3, v4, v5, some (.int x), v7, v8] st A Q ↔ XX d 133 42 [v0, v1, v2, v3, v4, v5, some (.int x), v7, v8] (.int x :: st) A Q := c_lcl i_133_40 rfl rfl
theorem q_133_42 : XX (d + 1) 133 42 [v0, v1, v2, v3, v4, v5, v6, v7, v8] [.int x1, .ref a0] (mk S I L R G) Q ↔ S a0 = some (.inr 9) ∧ XC d 84 [.ref a0, .int x1] (mk S I L R G) (XK (d + 1) 133 42 [v0, v1, v2, v3, v4, v5, v6, v7, v8] [] Q) := c_callV i_133_42 rfl rfl rfl rfl (Nat.le_of_ble_eq_true rfl) (Nat.le_of_ble_eq_true rfl) rfl
theorem q_133_45 : XX d 133 45 [v0, v1, v2, v3, v4, v5, v6, v7, v8] (.int x :: st) A Q ↔ if x = w 0 then XX d 133 48 [v0, v1, v2, v3, v4, v5, v6, v7, v8] st A Q else XX d 133 51 [v0, v1, v2, v3, v4, v5, v6, v7, v8] st A Q := z_ne i_133_45 rfl rfl rfl
theorem q_133_48 : XX d 133 48 [v0, v1, v2, v3, v4, v5, v6, v7, v8] st A Q ↔ XX d 133 114 [v0, v1, v2, v3, v4, v5, v6, v7, v8] st A Q := c_go i_133_48 rfl rfl
theorem q_133_51 : XX d 133 51 [v0, v1, v2, some (.ref a), v4, v5, v6, v7, v8] st A Q ↔ XX d 133 52 [v0, v1, v2, some (.ref a), v4, v5, v6, v7, v8] (.ref a :: st) A Q := c_lcl i_133_51 rfl rfl
theorem q_133_52 : XX d 133 52 [v0, v1, v2, v3, v4, v5, v6, v7, v8] (.ref a :: st) (mk S I L R G) Q ↔ S a = some (.inr 9) ∧ XX d 133 55 [v0, v1, v2, v3, v4, v5, v6, v7, v8] (.ref (a + 1) :: st) (mk S I L R G) Q := r_gf i_133_52 rfl (by decide) rfl
theorem q_133_55 : XX d 133 55 [v0, v1, v2, v3, v4, v5, some (.int x), v7, v8] st A Q ↔ XX d 133 57 [v0, v1, v2, v3, v4, v5, some (.int x), v7, v8] (.int x :: st) A Q := c_lcl i_133_55 rfl rfl
theorem q_133_57 : XX (d + 1) 133 57 [v0, v1, v2, v3, v4, v5, v6, v7, v8] [.int x1, .ref a0] (mk S I L R G) Q ↔ S a0 = some (.inr 4) ∧ XC d 32 [.ref a0, .int x1] (mk S I L R G) (XK (d + 1) 133 57 [v0, v1, v2, v3, v4, v5, v6, v7, v8] [] Q) := c_callV i_133_57 rfl rfl rfl rfl (Nat.le_of_ble_eq_true rfl) (Nat.le_of_ble_eq_true rfl) rfl
theorem q_133_60 : XX d 133 60 [v0, v1, v2, v3, v4, v5, some (.int z), v7, v8] (.int x :: st) A Q ↔ XX d 133 62 [v0, v1, v2, v3, v4, v5, some (.int z), some (.int x), v8] st A Q := c_lcl i_133_60 rfl rfl
theorem q_133_62 : XX d 133 62 [v0, v1, some (.int x), v3, v4, v5, v6, v7, v8] st A Q ↔ XX d 133 63 [v0, v1, some (.int x), v3, v4, v5, v6, v7, v8] (.int x :: st) A Q := c_lcl i_133_62 rfl rfl
theorem q_133_63 : XX d 133 63 [v0, v1, v2, v3, v4, v5, v6, v7, v8] (.int x :: st) A Q ↔ if x = w 0 then XX d 133 66 [v0, v1, v2, v3, v4, v5, v6, v7, v8] st A Q else XX d 133 81 [v0, v1, v2, v3, v4, v5, v6, v7, v8] st A Q := z_ne i_133_63 rfl rfl rfl
theorem q_133_66 : XX d 133 66 [v0, v1, v2, v3, v4, v5, v6, some (.int x), v8] st A Q ↔ XX d 133 68 [v0, v1, v2, v3, v4, v5, v6, some (.int x), v8] (.int x :: st) A Q := c_lcl i_133_66 rfl rfl
theorem q_133_68 : XX d 133 68 [v0, v1, v2, v3, v4, some (.int x), v6, v7, v8] st A Q ↔ XX d 133 70 [v0, v1, v2, v3, v4, some (.int x), v6, v7, v8] (.int x :: st) A Q := c_lcl i_133_68 rfl rfl
theorem q_133_70 : XX d 133 70 [v0, v1, v2, v3, v4, v5, v6, v7, v8] (.int y :: .int x :: st) A Q ↔ if y < x then XX d 133 73 [v0, v1, v2, v3, v4, v5, v6, v7, v8] st A Q else XX d 133 77 [v0, v1, v2, v3, v4, v5, v6, v7, v8] st A Q := b_le i_133_70 rfl rfl rfl
theorem q_133_73 : XX d 133 73 [v0, v1, v2, v3, v4, v5, v6, v7, v8] st A Q ↔ XX d 133 74 [v0, v1, v2, v3, v4, v5, v6, v7, v8] (.int (w 1) :: st) A Q := c_stk i_133_73 rfl
theorem q_133_74 : XX d 133 74 [v0, v1, v2, v3, v4, v5, v6, v7, v8] st A Q ↔ XX d 133 93 [v0, v1, v2, v3, v4, v5, v6, v7, v8] st A Q := c_go i_133_74 rfl rfl
theorem q_133_77 : XX d 133 77 [v0, v1, v2, v3, v4, v5, v6, v7, v8] st A Q ↔ XX d 133 78 [v0, v1, v2, v3, v4, v5, v6, v7, v8] (.int (w 0) :: st) A Q := c_stk i_133_77 rfl
theorem q_133_78 : XX d 133 78 [v0, v1, v2, v3, v4, v5, v6, v7, v8] st A Q ↔ XX d 133 93 [v0, v1, v2, v3, v4, v5, v6, v7, v8] st A Q := c_go i_133_78 rfl rfl
theorem q_133_81 : XX d 133 81 [v0, v1, v2, v3, v4, v5, v6, some (.int x), v8] st A Q ↔ XX d 133 83 [v0, v1, v2, v3, v4, v5, v6, some (.int x), v8] (.int x :: st) A Q := c_lcl i_133_81 rfl rfl
theorem q_133_83 : XX d 133 83 [v0, v1, v2, v3, v4, some (.int x), v6, v7, v8] st A Q ↔ XX d 133 85 [v0, v1, v2, v3, v4, some (.int x), v6, v7, v8] (.int x :: st) A Q := c_lcl i_133_83 rfl rfl
theorem q_133_85 : XX d 133 85 [v0, v1, v2, v3, v4, v5, v6, v7, v8] (.int y :: .int x :: st) A Q ↔ if x < y then XX d 133 88 [v0, v1, v2, v3, v4, v5, v6, v7, v8] st A Q else XX d 133 92 [v0, v1, v2, v3, v4, v5, v6, v7, v8] st A Q := b_ge i_133_85 rfl rfl rfl
theorem q_133_88 : XX d 133 88 [v0, v1, v2, v3, v4, v5, v6, v7, v8] st A Q ↔ XX d 133 89 [v0, v1, v2, v3, v4, v5, v6, v7, v8] (.int (w 1) :: st) A Q := c_stk i_133_88 rfl
theorem q_133_89 : XX d 133 89 [v0, v1, v2, v3, v4, v5, v6, v7, v8] st A Q ↔ XX d 133 93 [v0, v1, v2, v3, v4, v5, v6, v7, v8] st A Q := c_go i_133_89 rfl rfl
theorem q_133_92 : XX d 133 92 [v0, v1, v2, v3, v4, v5, v6, v7, v8] st A Q ↔ XX d 133 93 [v0, v1, v2, v3, v4, v5, v6, v7, v8] (.int (w 0) :: st) A Q := c_stk i_133_92 rfl
theorem q_133_93 : XX d 133 93 [v0, v1, v2, v3, v4, v5, v6, some (.int z), v8] (.int x :: st) A Q ↔ XX d 133 95 [v0, v1, v2, v3, v4, v5, v6, some (.int z), some (.int x)] st A Q := c_lcl i_133_93 rfl rfl
theorem q_133_95 : XX d 133 95 [v0, v1, v2, v3, some (.int x), v5, v6, v7, v8] st A Q ↔ XX d 133 97 [v0, v1, v2, v3, some (.int x), v5, v6, v7, v8] (.int x :: st) A Q := c_lcl i_133_95 rfl rfl
theorem q_133_97 : XX d 133 97 [v0, v1, v2, v3, v4, v5, v6, v7, v8] st A Q ↔ XX d 133 98 [v0, v1, v2, v3, v4, v5, v6, v7, v8] (.int (w (-1)) :: st) A Q := c_stk i_133_97 rfl
theorem q_133_98 : XX d 133 98 [v0, v1, v2, v3, v4, v5, v6, v7, v8] (.int y :: .int x :: st) A Q ↔ if x = y then XX d 133 106 [v0, v1, v2, v3, v4, v5, v6, v7, v8] st A Q else XX d 133 101 [v0, v1, v2, v3, v4, v5, v6, v7, v8] st A Q := b_eq i_133_98 rfl rfl rfl
theorem q_133_101 : XX d 133 101 [v0, v1, v2, v3, v4, v5, v6, v7, some (.int x)] st A Q ↔ XX d 133 103 [v0, v1, v2, v3, v4, v5, v6, v7, some (.int x)] (.int x :: st) A Q := c_lcl i_133_101 rfl rfl
theorem q_133_103 : XX d 133 103 [v0, v1, v2, v3, v4, v5, v6, v7, v8] (.int x :: st) A Q ↔ if x = w 0 then XX d 133 114 [v0, v1, v2, v3, v4, v5, v6, v7, v8] st A Q else XX d 133 106 [v0, v1, v2, v3, v4, v5, v6, v7, v8] st A Q := z_eq i_133_103 rfl rfl rfl
theorem q_133_106 : XX d 133 106 [v0, v1, v2, v3, v4, v5, some (.int x), v7, v8] st A Q ↔ XX d 133 108 [v0, v1, v2, v3, v4, v5, some (.int x), v7, v8] (.int x :: st) A Q := c_lcl i_133_106 rfl rfl
theorem q_133_108 : XX d 133 108 [v0, v1, v2, some (.ref b), v4, v5, v6, v7, v8] (.int x :: st) A Q ↔ XX d 133 110 [v0, v1, v2, some (.ref b), some (.int x), v5, v6, v7, v8] st A Q := c_lcl i_133_108 rfl rfl
theorem q_133_110 : XX d 133 110 [v0, v1, v2, v3, v4, v5, v6, some (.int x), v8] st A Q ↔ XX d 133 112 [v0, v1, v2, v3, v4, v5, v6, some (.int x), v8] (.int x :: st) A Q := c_lcl i_133_110 rfl rfl
theorem q_133_112 : XX d 133 112 [v0, v1, v2, v3, some (.int z), v5, v6, v7, v8] (.int x :: st) A Q ↔ XX d 133 114 [v0, v1, v2, v3, some (.int z), some (.int x), v6, v7, v8] st A Q := c_lcl i_133_112 rfl rfl
theorem q_133_114 : XX d 133 114 [v0, v1, v2, v3, v4, some (.int z), some (.int x), v7, v8] st A Q ↔ XX d 133 117 [v0, v1, v2, v3, v4, some (.int z), some (.int (x + w 1)), v7, v8] st A Q := c_lcl i_133_114 rfl rfl
theorem q_133_117 : XX d 133 117 [v0, v1, v2, v3, v4, v5, v6, v7, v8] st A Q ↔ XX d 133 27 [v0, v1, v2, v3, v4, v5, v6, v7, v8] st A Q := c_go i_133_117 rfl rfl
theorem q_133_120 : XX d 133 120 [v0, v1, v2, v3, some (.int x), v5, v6, v7, v8] st A Q ↔ XX d 133 122 [v0, v1, v2, v3, some (.int x), v5, v6, v7, v8] (.int x :: st) A Q := c_lcl i_133_120 rfl rfl
theorem q_133_122 : XX d 133 122 [v0, v1, v2, v3, v4, v5, v6, v7, v8] [.int x] A Q ↔ Q (.inl (some (.int x))) A := e_retI i_133_122 rfl
theorem q_133_e : XC d 133 [.ref a0, .int x1, .int x2] A Q ↔ XX d 133 0 [some (.ref a0), some (.int x1), some (.int x2), none, none, none, none, none, none] [] A Q := Iff.rfl
theorem i_134_0 : t_ins 134 0 = some (.aload_n 0) := by decide +kernel
theorem i_134_1 : t_ins 134 1 = some (.iload_n 1) := by decide +kernel
theorem i_134_2 : t_ins 134 2 = some (.invokevirtual 206) := by decide +kernel
theorem i_134_5 : t_ins 134 5 = some (.aload_n 0) := by decide +kernel
theorem i_134_6 : t_ins 134 6 = some (.iload_n 3) := by decide +kernel
theorem i_134_7 : t_ins 134 7 = some (.iconst 0) := by decide +kernel
theorem i_134_8 : t_ins 134 8 = some (.iconst 2) := by decide +kernel
theorem i_134_9 : t_ins 134 9 = some (.invokevirtual 89) := by decide +kernel
theorem i_134_12 : t_ins 134 12 = some (.aload_n 0) := by decide +kernel
theorem i_134_13 : t_ins 134 13 = some (.iload_n 1) := by decide +kernel
theorem i_134_14 : t_ins 134 14 = some (.invokevirtual 154) := by decide +kernel
theorem i_134_17 : t_ins 134 17 = some (.astore 4) := by decide +kernel
theorem i_134_19 : t_ins 134 19 = some (.iconst 0) := by decide +kernel
theorem i_134_20 : t_ins 134 20 = some (.istore 5) := by decide +kernel
theorem i_134_22 : t_ins 134 22 = some (.iload_n 2) := by decide +kernel
theorem i_134_23 : t_ins 134 23 = some (.istore 6) := by decide +kernel
theorem i_134_25 : t_ins 134 25 = some (.iconst (-1)) := by decide +kernel
theorem i_134_26 : t_ins 134 26 = some (.istore 7) := by decide +kernel
theorem i_134_28 : t_ins 134 28 = some (.iconst 0) := by decide +kernel
theorem i_134_29 : t_ins 134 29 = some (.istore 8) := by decide +kernel
theorem i_134_31 : t_ins 134 31 = some (.iload 8) := by decide +kernel
theorem i_134_33 : t_ins 134 33 = some (.bipush 103) := by decide +kernel
theorem i_134_35 : t_ins 134 35 = some (.if_icmp .ge 70) := by decide +kernel
theorem i_134_38 : t_ins 134 38 = some (.iload 7) := by decide +kernel
theorem i_134_40 : t_ins 134 40 = some (.iconst (-1)) := by decide +kernel
theorem i_134_41 : t_ins 134 41 = some (.if_icmp .ne 64) := by decide +kernel
theorem i_134_44 : t_ins 134 44 = some (.aload 4) := by decide +kernel
theorem i_134_46 : t_ins 134 46 = some (.iload 6) := by decide +kernel
theorem i_134_48 : t_ins 134 48 = some (.invokevirtual 213) := by decide +kernel
theorem i_134_51 : t_ins 134 51 = some (.ifCond .eq 54) := by decide +kernel
theorem i_134_54 : t_ins 134 54 = some (.aload_n 0) := by decide +kernel
theorem i_134_55 : t_ins 134 55 = some (.iload 6) := by decide +kernel
theorem i_134_57 : t_ins 134 57 = some (.iload 8) := by decide +kernel
theorem i_134_59 : t_ins 134 59 = some (.invokevirtual 311) := by decide +kernel
theorem i_134_62 : t_ins 134 62 = some (.ifCond .eq 10) := by decide +kernel
theorem i_134_65 : t_ins 134 65 = some (.iload 6) := by decide +kernel
theorem i_134_67 : t_ins 134 67 = some (.istore 7) := by decide +kernel
theorem i_134_69 : t_ins 134 69 = some (.goto 30) := by decide +kernel
theorem i_134_72 : t_ins 134 72 = some (.aload_n 0) := by decide +kernel
theorem i_134_73 : t_ins 134 73 = some (.getfield 68) := by decide +kernel
theorem i_134_76 : t_ins 134 76 = some (.iload 8) := by decide +kernel
theorem i_134_78 : t_ins 134 78 = some (.iload 6) := by decide +kernel
theorem i_134_80 : t_ins 134 80 = some (.iastore) := by decide +kernel
theorem i_134_81 : t_ins 134 81 = some (.iload 8) := by decide +kernel
theorem i_134_83 : t_ins 134 83 = some (.iconst 1) := by decide +kernel
theorem i_134_84 : t_ins 134 84 = some (.iadd) := by decide +kernel
theorem i_134_85 : t_ins 134 85 = some (.istore 5) := by decide +kernel
theorem i_134_87 : t_ins 134 87 = some (.aload 4) := by decide +kernel
theorem i_134_89 : t_ins 134 89 = some (.getfield 217) := by decide +kernel
theorem i_134_92 : t_ins 134 92 = some (.iload 6) := by decide +kernel
theorem i_134_94 : t_ins 134 94 = some (.invokevirtual 229) := by decide +kernel
theorem i_134_97 : t_ins 134 97 = some (.istore 6) := by decide +kernel
theorem i_134_99 : t_ins 134 99 = some (.iinc 8 1) := by decide +kernel
theorem i_134_102 : t_ins 134 102 = some (.goto (-71)) := by decide +kernel
theorem i_134_105 : t_ins 134 105 = some (.iload_n 3) := by decide +kernel
theorem i_134_106 : t_ins 134 106 = some (.lookupswitch 55 #[(0, 26), (1, 29)]) := by decide +kernel
theorem i_134_132 : t_ins 134 132 = some (.iload 5) := by decide +kernel
theorem i_134_134 : t_ins 134 134 = some (.ireturn) := by decide +kernel
theorem i_134_135 : t_ins 134 135 = some (.iload 5) := by decide +kernel
theorem i_134_137 : t_ins 134 137 = some (.ifCond .le 22) := by decide +kernel
theorem i_134_140 : t_ins 134 140 = some (.iload 5) := by decide +kernel
theorem i_134_142 : t_ins 134 142 = some (.bipush 103) := by decide +kernel
theorem i_134_144 : t_ins 134 144 = some (.if_icmp .gt 15) := by decide +kernel
theorem i_134_147 : t_ins 134 147 = some (.aload_n 0) := by decide +kernel
theorem i_134_148 : t_ins 134 148 = some (.getfield 68) := by decide +kernel
theorem i_134_151 : t_ins 134 151 = some (.iload 5) := by decide +kernel
theorem i_134_153 : t_ins 134 153 = some (.iconst 1) := by decide +kernel
theorem i_134_154 : t_ins 134 154 = some (.isub) := by decide +kernel
theorem i_134_155 : t_ins 134 155 = some (.iaload) := by decide +kernel
theorem i_134_156 : t_ins 134 156 = some (.goto 4) := by decide +kernel
theorem i_134_159 : t_ins 134 159 = some (.iconst (-1)) := by decide +kernel
theorem i_134_160 : t_ins 134 160 = some (.ireturn) := by decide +kernel
theorem i_134_161 : t_ins 134 161 = some (.iload 7) := by decide +kernel
theorem i_134_163 : t_ins 134 163 = some (.ireturn) := by decide +kernel
theorem q_134_0 : XX d 134 0 [some (.ref a), v1, v2, v3, v4, v5, v6, v7, v8] st A Q ↔ XX d 134 1 [some (.ref a), v1, v2, v3, v4, v5, v6, v7, v8] (.ref a :: st) A Q := c_lcl i_134_0 rfl rfl
theorem q_134_1 : XX d 134 1 [v0, some (.int x), v2, v3, v4, v5, v6, v7, v8] st A Q ↔ XX d 134 2 [v0, some (.int x), v2, v3, v4, v5, v6, v7, v8] (.int x :: st) A Q := c_lcl i_134_1 rfl rfl
theorem q_134_2 : XX (d + 1) 134 2 [v0, v1, v2, v3, v4, v5, v6, v7, v8] [.int x1, .ref a0] (mk S I L R G) Q ↔ S a0 = some (.inr 11) ∧ XC d 143 [.ref a0, .int x1] (mk S I L R G) (XK (d + 1) 134 2 [v0, v1, v2, v3, v4, v5, v6, v7, v8] [] Q) := c_callV i_134_2 rfl rfl rfl rfl (Nat.le_of_ble_eq_true rfl) (Nat.le_of_ble_eq_true rfl) rfl
theorem q_134_5 : XX d 134 5 [some (.ref a), v1, v2, v3, v4, v5, v6, v7, v8] st A Q ↔ XX d 134 6 [some (.ref a), v1, v2, v3, v4, v5, v6, v7, v8] (.ref a :: st) A Q := c_lcl i_134_5 rfl rfl
theorem q_134_6 : XX d 134 6 [v0, v1, v2, some (.int x), v4, v5, v6, v7, v8] st A Q ↔ XX d 134 7 [v0, v1, v2, some (.int x), v4, v5, v6, v7, v8] (.int x :: st) A Q := c_lcl i_134_6 rfl rfl
theorem q_134_7 : XX d 134 7 [v0, v1, v2, v3, v4, v5, v6, v7, v8] st A Q ↔ XX d 134 8 [v0, v1, v2, v3, v4, v5, v6, v7, v8] (.int (w 0) :: st) A Q := c_stk i_134_7 rfl
theorem q_134_8 : XX d 134 8 [v0, v1, v2, v3, v4, v5, v6, v7, v8] st A Q ↔ XX d 134 9 [v0, v1, v2, v3, v4, v5, v6, v7, v8] (.int (w 2) :: st) A Q := c_stk i_134_8 rfl
theorem q_134_9 : XX (d + 1) 134 9 [v0, v1, v2, v3, v4, v5, v6, v7, v8] [.int x3, .int x2, .int x1, .ref a0] (mk S I L R G) Q ↔ S a0 = some (.inr 11) ∧ XC d 146 [.ref a0, .int x1, .int x2, .int x3] (mk S I L R G) (XK (d + 1) 134 9 [v0, v1, v2, v3, v4, v5, v6, v7, v8] [] Q) := c_callV i_134_9 rfl rfl rfl rfl (Nat.le_of_ble_eq_true rfl) (Nat.le_of_ble_eq_true rfl) rfl
theorem q_134_12 : XX d 134 12 [some (.ref a), v1, v2, v3, v4, v5, v6, v7, v8] st A Q ↔ XX d 134 13 [some (.ref a), v1, v2, v3, v4, v5, v6, v7, v8] (.ref a :: st) A Q := c_lcl i_134_12 rfl rfl
theorem q_134_13 : XX d 134 13 [v0, some (.int x), v2, v3, v4, v5, v6, v7, v8] st A Q ↔ XX d 134 14 [v0, some (.int x), v2, v3, v4, v5, v6, v7, v8] (.int x :: st) A Q := c_lcl i_134_13 rfl rfl
theorem q_134_14 : XX (d + 1) 134 14 [v0, v1, v2, v3, v4, v5, v6, v7, v8] [.int x1, .ref a0] (mk S I L R G) Q ↔ S a0 = some (.inr 11) ∧ XC d 142 [.ref a0, .int x1] (mk S I L R G) (XK (d + 1) 134 14 [v0, v1, v2, v3, v4, v5, v6, v7, v8] [] Q) := c_callV i_134_14 rfl rfl rfl rfl (Nat.le_of_ble_eq_true rfl) (Nat.le_of_ble_eq_true rfl) rfl
theorem q_134_17 : XX d 134 17 [v0, v1, v2, some (.int z), v4, v5, v6, v7, v8] (.ref a :: st) A Q ↔ XX d 134 19 [v0, v1, v2, some (.int z), some (.ref a), v5, v6, v7, v8] st A Q := c_lcl i_134_17 rfl rfl
theorem q_134_19 : XX d 134 19 [v0, v1, v2, v3, v4, v5, v6, v7, v8] st A Q ↔ XX d 134 20 [v0, v1, v2, v3, v4, v5, v6, v7, v8] (.int (w 0) :: st) A Q := c_stk i_134_19 rfl
theorem q_134_20 : XX d 134 20 [v0, v1, v2, v3, some (.ref b), v5, v6, v7, v8] (.int x :: st) A Q ↔ XX d 134 22 [v0, v1, v2, v3, some (.ref b), some (.int x), v6, v7, v8] st A Q := c_lcl i_134_20 rfl rfl
theorem q_134_22 : XX d 134 22 [v0, v1, some (.int x), v3, v4, v5, v6, v7, v8] st A Q ↔ XX d 134 23 [v0, v1, some (.int x), v3, v4, v5, v6, v7, v8] (.int x :: st) A Q := c_lcl i_134_22 rfl rfl
theorem q_134_23 : XX d 134 23 [v0, v1, v2, v3, v4, some (.int z), v6, v7, v8] (.int x :: st) A Q ↔ XX d 134 25 [v0, v1, v2, v3, v4, some (.int z), some (.int x), v7, v8] st A Q := c_lcl i_134_23 rfl rfl
theorem q_134_25 : XX d 134 25 [v0, v1, v2, v3, v4, v5, v6, v7, v8] st A Q ↔ XX d 134 26 [v0, v1, v2, v3, v4, v5, v6, v7, v8] (.int (w (-1)) :: st) A Q := c_stk i_134_25 rfl
theorem q_134_26 : XX d 134 26 [v0, v1, v2, v3, v4, v5, some (.int z), v7, v8] (.int x :: st) A Q ↔ XX d 134 28 [v0, v1, v2, v3, v4, v5, some (.int z), some (.int x), v8] st A Q := c_lcl i_134_26 rfl rfl
theorem q_134_28 : XX d 134 28 [v0, v1, v2, v3, v4, v5, v6, v7, v8] st A Q ↔ XX d 134 29 [v0, v1, v2, v3, v4, v5, v6, v7, v8] (.int (w 0) :: st) A Q := c_stk i_134_28 rfl
theorem q_134_29 : XX d 134 29 [v0, v1, v2, v3, v4, v5, v6, some (.int z), v8] (.int x :: st) A Q ↔ XX d 134 31 [v0, v1, v2, v3, v4, v5, v6, some (.int z), some (.int x)] st A Q := c_lcl i_134_29 rfl rfl
theorem q_134_31 : XX d 134 31 [v0, v1, v2, v3, v4, v5, v6, v7, some (.int x)] st A Q ↔ XX d 134 33 [v0, v1, v2, v3, v4, v5, v6, v7, some (.int x)] (.int x :: st) A Q := c_lcl i_134_31 rfl rfl
theorem q_134_33 : XX d 134 33 [v0, v1, v2, v3, v4, v5, v6, v7, v8] st A Q ↔ XX d 134 35 [v0, v1, v2, v3, v4, v5, v6, v7, v8] (.int (w 103) :: st) A Q := c_stk i_134_33 rfl
theorem q_134_35 : XX d 134 35 [v0, v1, v2, v3, v4, v5, v6, v7, v8] (.int y :: .int x :: st) A Q ↔ if x < y then XX d 134 38 [v0, v1, v2, v3, v4, v5, v6, v7, v8] st A Q else XX d 134 105 [v0, v1, v2, v3, v4, v5, v6, v7, v8] st A Q := b_ge i_134_35 rfl rfl rfl
theorem q_134_38 : XX d 134 38 [v0, v1, v2, v3, v4, v5, v6, some (.int x), v8] st A Q ↔ XX d 134 40 [v0, v1, v2, v3, v4, v5, v6, some (.int x), v8] (.int x :: st) A Q := c_lcl i_134_38 rfl rfl
theorem q_134_40 : XX d 134 40 [v0, v1, v2, v3, v4, v5, v6, v7, v8] st A Q ↔ XX d 134 41 [v0, v1, v2, v3, v4, v5, v6, v7, v8] (.int (w (-1)) :: st) A Q := c_stk i_134_40 rfl
theorem q_134_41 : XX d 134 41 [v0, v1, v2, v3, v4, v5, v6, v7, v8] (.int y :: .int x :: st) A Q ↔ if x = y then XX d 134 44 [v0, v1, v2, v3, v4, v5, v6, v7, v8] st A Q else XX d 134 105 [v0, v1, v2, v3, v4, v5, v6, v7, v8] st A Q := b_ne i_134_41 rfl rfl rfl
theorem q_134_44 : XX d 134 44 [v0, v1, v2, v3, some (.ref a), v5, v6, v7, v8] st A Q ↔ XX d 134 46 [v0, v1, v2, v3, some (.ref a), v5, v6, v7, v8] (.ref a :: st) A Q := c_lcl i_134_44 rfl rfl
theorem q_134_46 : XX d 134 46 [v0, v1, v2, v3, v4, v5, some (.int x), v7, v8] st A Q ↔ XX d 134 48 [v0, v1, v2, v3, v4, v5, some (.int x), v7, v8] (.int x :: st) A Q := c_lcl i_134_46 rfl rfl
theorem q_134_48 : XX (d + 1) 134 48 [v0, v1, v2, v3, v4, v5, v6, v7, v8] [.int x1, .ref a0] (mk S I L R G) Q ↔ S a0 = some (.inr 9) ∧ XC d 84 [.ref a0, .int x1] (mk S I L R G) (XK (d + 1) 134 48 [v0, v1, v2, v3, v4, v5, v6, v7, v8] [] Q) := c_callV i_134_48 rfl rfl rfl rfl (Nat.le_of_ble_eq_true rfl) (Nat.le_of_ble_eq_true rfl) rfl
theorem q_134_51 : XX d 134 51 [v0, v1, v2, v3, v4, v5, v6, v7, v8] (.int x :: st) A Q ↔ if x = w 0 then XX d 134 105 [v0, v1, v2, v3, v4, v5, v6, v7, v8] st A Q else XX d 134 54 [v0, v1, v2, v3, v4, v5, v6, v7, v8] st A Q := z_eq i_134_51 rfl rfl rfl
theorem q_134_54 : XX d 134 54 [some (.ref a), v1, v2, v3, v4, v5, v6, v7, v8] st A Q ↔ XX d 134 55 [some (.ref a), v1, v2, v3, v4, v5, v6, v7, v8] (.ref a :: st) A Q := c_lcl i_134_54 rfl rfl
theorem q_134_55 : XX d 134 55 [v0, v1, v2, v3, v4, v5, some (.int x), v7, v8] st A Q ↔ XX d 134 57 [v0, v1, v2, v3, v4, v5, some (.int x), v7, v8] (.int x :: st) A Q := c_lcl i_134_55 rfl rfl
theorem q_134_57 : XX d 134 57 [v0, v1, v2, v3, v4, v5, v6, v7, some (.int x)] st A Q ↔ XX d 134 59 [v0, v1, v2, v3, v4, v5, v6, v7, some (.int x)] (.int x :: st) A Q := c_lcl i_134_57 rfl rfl
theorem q_134_59 : XX (d + 1) 134 59 [v0, v1, v2, v3, v4, v5, v6, v7, v8] [.int x2, .int x1, .ref a0] (mk S I L R G) Q ↔ S a0 = some (.inr 11) ∧ XC d 135 [.ref a0, .int x1, .int x2] (mk S I L R G) (XK (d + 1) 134 59 [v0, v1, v2, v3, v4, v5, v6, v7, v8] [] Q) := c_callV i_134_59 rfl rfl rfl rfl (Nat.le_of_ble_eq_true rfl) (Nat.le_of_ble_eq_true rfl) rfl
theorem q_134_62 : XX d 134 62 [v0, v1, v2, v3, v4, v5, v6, v7, v8] (.int x :: st) A Q ↔ if x = w 0 then XX d 134 72 [v0, v1, v2, v3, v4, v5, v6, v7, v8] st A Q else XX d 134 65 [v0, v1, v2, v3, v4, v5, v6, v7, v8] st A Q := z_eq i_134_62 rfl rfl rfl
theorem q_134_65 : XX d 134 65 [v0, v1, v2, v3, v4, v5, some (.int x), v7, v8] st A Q ↔ XX d 134 67 [v0, v1, v2, v3, v4, v5, some (.int x), v7, v8] (.int x :: st) A Q := c_lcl i_134_65 rfl rfl
theorem q_134_67 : XX d 134 67 [v0, v1, v2, v3, v4, v5, some (.int z), v7, v8] (.int x :: st) A Q ↔ XX d 134 69 [v0, v1, v2, v3, v4, v5, some (.int z), some (.int x), v8] st A Q := c_lcl i_134_67 rfl rfl
theorem q_134_69 : XX d 134 69 [v0, v1, v2, v3, v4, v5, v6, v7, v8] st A Q ↔ XX d 134 99 [v0, v1, v2, v3, v4, v5, v6, v7, v8] st A Q := c_go i_134_69 rfl rfl
theorem q_134_72 : XX d 134 72 [some (.ref a), v1, v2, v3, v4, v5, v6, v7, v8] st A Q ↔ XX d 134 73 [some (.ref a), v1, v2, v3, v4, v5, v6, v7, v8] (.ref a :: st) A Q := c_lcl i_134_72 rfl rfl
theorem q_134_73 : XX d 134 73 [v0, v1, v2, v3, v4, v5, v6, v7, v8] (.ref a :: st) (mk S I L R G) Q ↔ S a = some (.inr 11) ∧ XX d 134 76 [v0, v1, v2, v3, v4, v5, v6, v7, v8] (.ref (a + 120) :: st) (mk S I L R G) Q := r_gf i_134_73 rfl (by decide) rfl
theorem q_134_76 : XX d 134 76 [v0, v1, v2, v3, v4, v5, v6, v7, some (.int x)] st A Q ↔ XX d 134 78 [v0, v1, v2, v3, v4, v5, v6, v7, some (.int x)] (.int x :: st) A Q := c_lcl i_134_76 rfl rfl
theorem q_134_78 : XX d 134 78 [v0, v1, v2, v3, v4, v5, some (.int x), v7, v8] st A Q ↔ XX d 134 80 [v0, v1, v2, v3, v4, v5, some (.int x), v7, v8] (.int x :: st) A Q := c_lcl i_134_78 rfl rfl
theorem q_134_80 : XX d 134 80 [v0, v1, v2, v3, v4, v5, v6, v7, v8] (.int y :: .int x :: .ref a :: st) (mk S I L R G) Q ↔ inA (S a) ok_0 x ∧ XX d 134 81 [v0, v1, v2, v3, v4, v5, v6, v7, v8] st (mk S (wr I a (up (I a) (ix x) y)) L R G) Q := r_ias i_134_80
theorem q_134_81 : XX d 134 81 [v0, v1, v2, v3, v4, v5, v6, v7, some (.int x)] st A Q ↔ XX d 134 83 [v0, v1, v2, v3, v4, v5, v6, v7, some (.int x)] (.int x :: st) A Q := c_lcl i_134_81 rfl rfl
theorem q_134_83 : XX d 134 83 [v0, v1, v2, v3, v4, v5, v6, v7, v8] st A Q ↔ XX d 134 84 [v0, v1, v2, v3, v4, v5, v6, v7, v8] (.int (w 1) :: st) A Q := c_stk i_134_83 rfl
theorem q_134_84 : XX d 134 84 [v0, v1, v2, v3, v4, v5, v6, v7, v8] (.int y :: .int x :: st) A Q ↔ XX d 134 85 [v0, v1, v2, v3, v4, v5, v6, v7, v8] (.int (x + y) :: st) A Q := c_stk i_134_84 rfl
theorem q_134_85 : XX d 134 85 [v0, v1, v2, v3, some (.ref b), v5, v6, v7, v8] (.int x :: st) A Q ↔ XX d 134 87 [v0, v1, v2, v3, some (.ref b), some (.int x), v6, v7, v8] st A Q := c_lcl i_134_85 rfl rfl
theorem q_134_87 : XX d 134 87 [v0, v1, v2, v3, some (.ref a), v5, v6, v7, v8] st A Q ↔ XX d 134 89 [v0, v1, v2, v3, some (.ref a), v5, v6, v7, v8] (.ref a :: st) A Q := c_lcl i_134_87 rfl rfl
theorem q_134_89 : XX d 134 89 [v0, v1, v2, v3, v4, v5, v6, v7, v8] (.ref a :: st) (mk S I L R G) Q ↔ S a = some (.inr 9) ∧ XX d 134 92 [v0, v1, v2, v3, v4, v5, v6, v7, v8] (.ref (a + 1) :: st) (mk S I L R G) Q := r_gf i_134_89 rfl (by decide) rfl
theorem q_134_92 : XX d 134 92 [v0, v1, v2, v3, v4, v5, some (.int x), v7, v8] st A Q ↔ XX d 134 94 [v0, v1, v2, v3, v4, v5, some (.int x), v7, v8] (.int x :: st) A Q := c_lcl i_134_92 rfl rfl
theorem q_134_94 : XX (d + 1) 134 94 [v0, v1, v2, v3, v4, v5, v6, v7, v8] [.int x1, .ref a0] (mk S I L R G) Q ↔ S a0 = some (.inr 4) ∧ XC d 38 [.ref a0, .int x1] (mk S I L R G) (XK (d + 1) 134 94 [v0, v1, v2, v3, v4, v5, v6, v7, v8] [] Q) := c_callV i_134_94 rfl rfl rfl rfl (Nat.le_of_ble_eq_true rfl) (Nat.le_of_ble_eq_true rfl) rfl
theorem q_134_97 : XX d 134 97 [v0, v1, v2, v3, v4, some (.int z), v6, v7, v8] (.int x :: st) A Q ↔ XX d 134 99 [v0, v1, v2, v3, v4, some (.int z), some (.int x), v7, v8] st A Q := c_lcl i_134_97 rfl rfl
theorem q_134_99 : XX d 134 99 [v0, v1, v2, v3, v4, v5, v6, some (.int z), some (.int x)] st A Q ↔ XX d 134 102 [v0, v1, v2, v3, v4, v5, v6, some (.int z), some (.int (x + w 1))] st A Q := c_lcl i_134_99 rfl rfl
theorem q_134_102 : XX d 134 102 [v0, v1, v2, v3, v4, v5, v6, v7, v8] st A Q ↔ XX d 134 31 [v0, v1, v2, v3, v4, v5, v6, v7, v8] st A Q := c_go i_134_102 rfl rfl
theorem q_134_105 : XX d 134 105 [v0, v1, v2, some (.int x), v4, v5, v6, v7, v8] st A Q ↔ XX d 134 106 [v0, v1, v2, some (.int x), v4, v5, v6, v7, v8] (.int x :: st) A Q := c_lcl i_134_105 rfl rfl
theorem q_134_106 : XX d 134 106 [v0, v1, v2, v3, v4, v5, v6, v7, v8] (.int x :: st) A Q ↔ XX d 134 (swL [(0, 132), (1, 135)] 161 x.toInt) [v0, v1, v2, v3, v4, v5, v6, v7, v8] st A Q := c_look i_134_106 rfl rfl rfl rfl
theorem q_134_132 : XX d 134 132 [v0, v1, v2, v3, v4, some (.int x), v6, v7, v8] st A Q ↔ XX d 134 134 [v0, v1, v2, v3, v4, some (.int x), v6, v7, v8] (.int x :: st) A Q := c_lcl i_134_132 rfl rfl
theorem q_134_134 : XX d 134 134 [v0, v1, v2, v3, v4, v5, v6, v7, v8] [.int x] A Q ↔ Q (.inl (some (.int x))) A := e_retI i_134_134 rfl
theorem q_134_135 : XX d 134 135 [v0, v1, v2, v3, v4, some (.int x), v6, v7, v8] st A Q ↔ XX d 134 137 [v0, v1, v2, v3, v4, some (.int x), v6, v7, v8] (.int x :: st) A Q := c_lcl i_134_135 rfl rfl
theorem q_134_137 : XX d 134 137 [v0, v1, v2, v3, v4, v5, v6, v7, v8] (.int x :: st) A Q ↔ if w 0 < x then XX d 134 140 [v0, v1, v2, v3, v4, v5, v6, v7, v8] st A Q else XX d 134 159 [v0, v1, v2, v3, v4, v5, v6, v7, v8] st A Q := z_le i_134_137 rfl rfl rfl
theorem q_134_140 : XX d 134 140 [v0, v1, v2, v3, v4, some (.int x), v6, v7, v8] st A Q ↔ XX d 134 142 [v0, v1, v2, v3, v4, some (.int x), v6, v7, v8] (.int x :: st) A Q := c_lcl i_134_140 rfl rfl
theorem q_134_142 : XX d 134 142 [v0, v1, v2, v3, v4, v5, v6, v7, v8] st A Q ↔ XX d 134 144 [v0, v1, v2, v3, v4, v5, v6, v7, v8] (.int (w 103) :: st) A Q := c_stk i_134_142 rfl
theorem q_134_144 : XX d 134 144 [v0, v1, v2, v3, v4, v5, v6, v7, v8] (.int y :: .int x :: st) A Q ↔ if y < x then XX d 134 159 [v0, v1, v2, v3, v4, v5, v6, v7, v8] st A Q else XX d 134 147 [v0, v1, v2, v3, v4, v5, v6, v7, v8] st A Q := b_gt i_134_144 rfl rfl rfl
theorem q_134_147 : XX d 134 147 [some (.ref a), v1, v2, v3, v4, v5, v6, v7, v8] st A Q ↔ XX d 134 148 [some (.ref a), v1, v2, v3, v4, v5, v6, v7, v8] (.ref a :: st) A Q := c_lcl i_134_147 rfl rfl
theorem q_134_148 : XX d 134 148 [v0, v1, v2, v3, v4, v5, v6, v7, v8] (.ref a :: st) (mk S I L R G) Q ↔ S a = some (.inr 11) ∧ XX d 134 151 [v0, v1, v2, v3, v4, v5, v6, v7, v8] (.ref (a + 120) :: st) (mk S I L R G) Q := r_gf i_134_148 rfl (by decide) rfl
theorem q_134_151 : XX d 134 151 [v0, v1, v2, v3, v4, some (.int x), v6, v7, v8] st A Q ↔ XX d 134 153 [v0, v1, v2, v3, v4, some (.int x), v6, v7, v8] (.int x :: st) A Q := c_lcl i_134_151 rfl rfl
theorem q_134_153 : XX d 134 153 [v0, v1, v2, v3, v4, v5, v6, v7, v8] st A Q ↔ XX d 134 154 [v0, v1, v2, v3, v4, v5, v6, v7, v8] (.int (w 1) :: st) A Q := c_stk i_134_153 rfl
theorem q_134_154 : XX d 134 154 [v0, v1, v2, v3, v4, v5, v6, v7, v8] (.int y :: .int x :: st) A Q ↔ XX d 134 155 [v0, v1, v2, v3, v4, v5, v6, v7, v8] (.int (x - y) :: st) A Q := c_stk i_134_154 rfl
theorem q_134_155 : XX d 134 155 [v0, v1, v2, v3, v4, v5, v6, v7, v8] (.int x :: .ref a :: st) (mk S I L R G) Q ↔ inA (S a) ok_i x ∧ XX d 134 156 [v0, v1, v2, v3, v4, v5, v6, v7, v8] (.int (I a (ix x)) :: st) (mk S I L R G) Q := r_ia i_134_155
theorem q_134_156 : XX d 134 156 [v0, v1, v2, v3, v4, v5, v6, v7, v8] st A Q ↔ XX d 134 160 [v0, v1, v2, v3, v4, v5, v6, v7, v8] st A Q := c_go i_134_156 rfl rfl
theorem q_134_159 : XX d 134 159 [v0, v1, v2, v3, v4, v5, v6, v7, v8] st A Q ↔ XX d 134 160 [v0, v1, v2, v3, v4, v5, v6, v7, v8] (.int (w (-1)) :: st) A Q := c_stk i_134_159 rfl
theorem q_134_160 : XX d 134 160 [v0, v1, v2, v3, v4, v5, v6, v7, v8] [.int x] A Q ↔ Q (.inl (some (.int x))) A := e_retI i_134_160 rfl
theorem q_134_161 : XX d 134 161 [v0, v1, v2, v3, v4, v5, v6, some (.int x), v8] st A Q ↔ XX d 134 163 [v0, v1, v2, v3, v4, v5, v6, some (.int x), v8] (.int x :: st) A Q := c_lcl i_134_161 rfl rfl
theorem q_134_163 : XX d 134 163 [v0, v1, v2, v3, v4, v5, v6, v7, v8] [.int x] A Q ↔ Q (.inl (some (.int x))) A := e_retI i_134_163 rfl
theorem q_134_e : XC d 134 [.ref a0, .int x1, .int x2, .int x3] A Q ↔ XX d 134 0 [some (.ref a0), some (.int x1), some (.int x2), some (.int x3), none, none, none, none, none] [] A Q := Iff.rfl
theorem i_135_0 : t_ins 135 0 = some (.iconst 0) := by decide +kernel
theorem i_135_1 : t_ins 135 1 = some (.istore_n 3) := by decide +kernel
theorem i_135_2 : t_ins 135 2 = some (.iload_n 3) := by decide +kernel
theorem i_135_3 : t_ins 135 3 = some (.iload_n 2) := by decide +kernel
theorem i_135_4 : t_ins 135 4 = some (.if_icmp .ge 27) := by decide +kernel
theorem i_135_7 : t_ins 135 7 = some (.iload_n 3) := by decide +kernel
theorem i_135_8 : t_ins 135 8 = some (.bipush 103) := by decide +kernel
theorem i_135_10 : t_ins 135 10 = some (.if_icmp .ge 21) := by decide +kernel
theorem i_135_13 : t_ins 135 13 = some (.aload_n 0) := by decide +kernel
theorem i_135_14 : t_ins 135 14 = some (.getfield 68) := by decide +kernel
theorem i_135_17 : t_ins 135 17 = some (.iload_n 3) := by decide +kernel
theorem i_135_18 : t_ins 135 18 = some (.iaload) := by decide +kernel
theorem i_135_19 : t_ins 135 19 = some (.iload_n 1) := by decide +kernel
theorem i_135_20 : t_ins 135 20 = some (.if_icmp .ne 5) := by decide +kernel
theorem i_135_23 : t_ins 135 23 = some (.iconst 1) := by decide +kernel
theorem i_135_24 : t_ins 135 24 = some (.ireturn) := by decide +kernel
theorem i_135_25 : t_ins 135 25 = some (.iinc 3 1) := by decide +kernel
theorem i_135_28 : t_ins 135 28 = some (.goto (-26)) := by decide +kernel
theorem i_135_31 : t_ins 135 31 = some (.iconst 0) := by decide +kernel
theorem i_135_32 : t_ins 135 32 = some (.ireturn) := by decide +kernel
theorem q_135_0 : XX d 135 0 [v0, v1, v2, v3] st A Q ↔ XX d 135 1 [v0, v1, v2, v3] (.int (w 0) :: st) A Q := c_stk i_135_0 rfl
theorem q_135_1 : XX d 135 1 [v0, v1, some (.int z), v3] (.int x :: st) A Q ↔ XX d 135 2 [v0, v1, some (.int z), some (.int x)] st A Q := c_lcl i_135_1 rfl rfl
theorem q_135_2 : XX d 135 2 [v0, v1, v2, some (.int x)] st A Q ↔ XX d 135 3 [v0, v1, v2, some (.int x)] (.int x :: st) A Q := c_lcl i_135_2 rfl rfl
theorem q_135_3 : XX d 135 3 [v0, v1, some (.int x), v3] st A Q ↔ XX d 135 4 [v0, v1, some (.int x), v3] (.int x :: st) A Q := c_lcl i_135_3 rfl rfl
theorem q_135_4 : XX d 135 4 [v0, v1, v2, v3] (.int y :: .int x :: st) A Q ↔ if x < y then XX d 135 7 [v0, v1, v2, v3] st A Q else XX d 135 31 [v0, v1, v2, v3] st A Q := b_ge i_135_4 rfl rfl rfl
theorem q_135_7 : XX d 135 7 [v0, v1, v2, some (.int x)] st A Q ↔ XX d 135 8 [v0, v1, v2, some (.int x)] (.int x :: st) A Q := c_lcl i_135_7 rfl rfl
theorem q_135_8 : XX d 135 8 [v0, v1, v2, v3] st A Q ↔ XX d 135 10 [v0, v1, v2, v3] (.int (w 103) :: st) A Q := c_stk i_135_8 rfl
theorem q_135_10 : XX d 135 10 [v0, v1, v2, v3] (.int y :: .int x :: st) A Q ↔ if x < y then XX d 135 13 [v0, v1, v2, v3] st A Q else XX d 135 31 [v0, v1, v2, v3] st A Q := b_ge i_135_10 rfl rfl rfl
theorem q_135_13 : XX d 135 13 [some (.ref a), v1, v2, v3] st A Q ↔ XX d 135 14 [some (.ref a), v1, v2, v3] (.ref a :: st) A Q := c_lcl i_135_13 rfl rfl
theorem q_135_14 : XX d 135 14 [v0, v1, v2, v3] (.ref a :: st) (mk S I L R G) Q ↔ S a = some (.inr 11) ∧ XX d 135 17 [v0, v1, v2, v3] (.ref (a + 120) :: st) (mk S I L R G) Q := r_gf i_135_14 rfl (by decide) rfl
theorem q_135_17 : XX d 135 17 [v0, v1, v2, some (.int x)] st A Q ↔ XX d 135 18 [v0, v1, v2, some (.int x)] (.int x :: st) A Q := c_lcl i_135_17 rfl rfl
theorem q_135_18 : XX d 135 18 [v0, v1, v2, v3] (.int x :: .ref a :: st) (mk S I L R G) Q ↔ inA (S a) ok_i x ∧ XX d 135 19 [v0, v1, v2, v3] (.int (I a (ix x)) :: st) (mk S I L R G) Q := r_ia i_135_18
theorem q_135_19 : XX d 135 19 [v0, some (.int x), v2, v3] st A Q ↔ XX d 135 20 [v0, some (.int x), v2, v3] (.int x :: st) A Q := c_lcl i_135_19 rfl rfl
theorem q_135_20 : XX d 135 20 [v0, v1, v2, v3] (.int y :: .int x :: st) A Q ↔ if x = y then XX d 135 23 [v0, v1, v2, v3] st A Q else XX d 135 25 [v0, v1, v2, v3] st A Q := b_ne i_135_20 rfl rfl rfl
theorem q_135_23 : XX d 135 23 [v0, v1, v2, v3] st A Q ↔ XX d 135 24 [v0, v1, v2, v3] (.int (w 1) :: st) A Q := c_stk i_135_23 rfl
theorem q_135_24 : XX d 135 24 [v0, v1, v2, v3] [.int x] A Q ↔ (x = w 0 ∨ x = w 1) ∧ Q (.inl (some (.int x))) A := e_retZ i_135_24 rfl
theorem q_135_25 : XX d 135 25 [v0, v1, some (.int z), some (.int x)] st A Q ↔ XX d 135 28 [v0, v1, some (.int z), some (.int (x + w 1))] st A Q := c_lcl i_135_25 rfl rfl
theorem q_135_28 : XX d 135 28 [v0, v1, v2, v3] st A Q ↔ XX d 135 2 [v0, v1, v2, v3] st A Q := c_go i_135_28 rfl rfl
theorem q_135_31 : XX d 135 31 [v0, v1, v2, v3] st A Q ↔ XX d 135 32 [v0, v1, v2, v3] (.int (w 0) :: st) A Q := c_stk i_135_31 rfl
theorem q_135_32 : XX d 135 32 [v0, v1, v2, v3] [.int x] A Q ↔ (x = w 0 ∨ x = w 1) ∧ Q (.inl (some (.int x))) A := e_retZ i_135_32 rfl
theorem q_135_e : XC d 135 [.ref a0, .int x1, .int x2] A Q ↔ XX d 135 0 [some (.ref a0), some (.int x1), some (.int x2), none] [] A Q := Iff.rfl
theorem i_136_0 : t_ins 136 0 = some (.aload_n 0) := by decide +kernel
theorem i_136_1 : t_ins 136 1 = some (.iload_n 1) := by decide +kernel
theorem i_136_2 : t_ins 136 2 = some (.invokevirtual 206) := by decide +kernel
theorem i_136_5 : t_ins 136 5 = some (.aload_n 0) := by decide +kernel
theorem i_136_6 : t_ins 136 6 = some (.iload_n 1) := by decide +kernel
theorem i_136_7 : t_ins 136 7 = some (.invokevirtual 154) := by decide +kernel
theorem i_136_10 : t_ins 136 10 = some (.astore_n 2) := by decide +kernel
theorem i_136_11 : t_ins 136 11 = some (.iconst 0) := by decide +kernel
theorem i_136_12 : t_ins 136 12 = some (.istore_n 3) := by decide +kernel
theorem i_136_13 : t_ins 136 13 = some (.iconst 0) := by decide +kernel
theorem i_136_14 : t_ins 136 14 = some (.istore 4) := by decide +kernel
theorem i_136_16 : t_ins 136 16 = some (.iload 4) := by decide +kernel
theorem i_136_18 : t_ins 136 18 = some (.aload_n 0) := by decide +kernel
theorem i_136_19 : t_ins 136 19 = some (.getfield 19) := by decide +kernel
theorem i_136_22 : t_ins 136 22 = some (.getfield 137) := by decide +kernel
theorem i_136_25 : t_ins 136 25 = some (.if_icmp .gt 35) := by decide +kernel
theorem i_136_28 : t_ins 136 28 = some (.aload_n 2) := by decide +kernel
theorem i_136_29 : t_ins 136 29 = some (.iload 4) := by decide +kernel
theorem i_136_31 : t_ins 136 31 = some (.invokevirtual 213) := by decide +kernel
theorem i_136_34 : t_ins 136 34 = some (.ifCond .eq 20) := by decide +kernel
theorem i_136_37 : t_ins 136 37 = some (.aload_n 2) := by decide +kernel
theorem i_136_38 : t_ins 136 38 = some (.getfield 217) := by decide +kernel
theorem i_136_41 : t_ins 136 41 = some (.iload 4) := by decide +kernel
theorem i_136_43 : t_ins 136 43 = some (.invokevirtual 229) := by decide +kernel
theorem i_136_46 : t_ins 136 46 = some (.iload 4) := by decide +kernel
theorem i_136_48 : t_ins 136 48 = some (.if_icmp .ne 6) := by decide +kernel
theorem i_136_51 : t_ins 136 51 = some (.iinc 3 1) := by decide +kernel
theorem i_136_54 : t_ins 136 54 = some (.iinc 4 1) := by decide +kernel
theorem i_136_57 : t_ins 136 57 = some (.goto (-41)) := by decide +kernel
theorem i_136_60 : t_ins 136 60 = some (.iload_n 3) := by decide +kernel
theorem i_136_61 : t_ins 136 61 = some (.ireturn) := by decide +kernel
theorem q_136_0 : XX d 136 0 [some (.ref a), v1, v2, v3, v4] st A Q ↔ XX d 136 1 [some (.ref a), v1, v2, v3, v4] (.ref a :: st) A Q := c_lcl i_136_0 rfl rfl
theorem q_136_1 : XX d 136 1 [v0, some (.int x), v2, v3, v4] st A Q ↔ XX d 136 2 [v0, some (.int x), v2, v3, v4] (.int x :: st) A Q := c_lcl i_136_1 rfl rfl
theorem q_136_2 : XX (d + 1) 136 2 [v0, v1, v2, v3, v4] [.int x1, .ref a0] (mk S I L R G) Q ↔ S a0 = some (.inr 11) ∧ XC d 143 [.ref a0, .int x1] (mk S I L R G) (XK (d + 1) 136 2 [v0, v1, v2, v3, v4] [] Q) := c_callV i_136_2 rfl rfl rfl rfl (Nat.le_of_ble_eq_true rfl) (Nat.le_of_ble_eq_true rfl) rfl
theorem q_136_5 : XX d 136 5 [some (.ref a), v1, v2, v3, v4] st A Q ↔ XX d 136 6 [some (.ref a), v1, v2, v3, v4] (.ref a :: st) A Q := c_lcl i_136_5 rfl rfl
theorem q_136_6 : XX d 136 6 [v0, some (.int x), v2, v3, v4] st A Q ↔ XX d 136 7 [v0, some (.int x), v2, v3, v4] (.int x :: st) A Q := c_lcl i_136_6 rfl rfl
theorem q_136_7 : XX (d + 1) 136 7 [v0, v1, v2, v3, v4] [.int x1, .ref a0] (mk S I L R G) Q ↔ S a0 = some (.inr 11) ∧ XC d 142 [.ref a0, .int x1] (mk S I L R G) (XK (d + 1) 136 7 [v0, v1, v2, v3, v4] [] Q) := c_callV i_136_7 rfl rfl rfl rfl (Nat.le_of_ble_eq_true rfl) (Nat.le_of_ble_eq_true rfl) rfl
theorem q_136_10 : XX d 136 10 [v0, some (.int z), v2, v3, v4] (.ref a :: st) A Q ↔ XX d 136 11 [v0, some (.int z), some (.ref a), v3, v4] st A Q := c_lcl i_136_10 rfl rfl
theorem q_136_11 : XX d 136 11 [v0, v1, v2, v3, v4] st A Q ↔ XX d 136 12 [v0, v1, v2, v3, v4] (.int (w 0) :: st) A Q := c_stk i_136_11 rfl
theorem q_136_12 : XX d 136 12 [v0, v1, some (.ref b), v3, v4] (.int x :: st) A Q ↔ XX d 136 13 [v0, v1, some (.ref b), some (.int x), v4] st A Q := c_lcl i_136_12 rfl rfl
theorem q_136_13 : XX d 136 13 [v0, v1, v2, v3, v4] st A Q ↔ XX d 136 14 [v0, v1, v2, v3, v4] (.int (w 0) :: st) A Q := c_stk i_136_13 rfl
theorem q_136_14 : XX d 136 14 [v0, v1, v2, some (.int z), v4] (.int x :: st) A Q ↔ XX d 136 16 [v0, v1, v2, some (.int z), some (.int x)] st A Q := c_lcl i_136_14 rfl rfl
theorem q_136_16 : XX d 136 16 [v0, v1, v2, v3, some (.int x)] st A Q ↔ XX d 136 18 [v0, v1, v2, v3, some (.int x)] (.int x :: st) A Q := c_lcl i_136_16 rfl rfl
theorem q_136_18 : XX d 136 18 [some (.ref a), v1, v2, v3, v4] st A Q ↔ XX d 136 19 [some (.ref a), v1, v2, v3, v4] (.ref a :: st) A Q := c_lcl i_136_18 rfl rfl
theorem q_136_19 : XX d 136 19 [v0, v1, v2, v3, v4] (.ref a :: st) (mk S I L R G) Q ↔ S a = some (.inr 11) ∧ XX d 136 22 [v0, v1, v2, v3, v4] (.ref (a + 3) :: st) (mk S I L R G) Q := r_gf i_136_19 rfl (by decide) rfl
theorem q_136_22 : XX d 136 22 [v0, v1, v2, v3, v4] (.ref a :: st) (mk S I L R G) Q ↔ S a = some (.inr 0) ∧ XX d 136 25 [v0, v1, v2, v3, v4] (.int (I a 2) :: st) (mk S I L R G) Q := r_gf i_136_22 rfl (by decide) rfl
theorem q_136_25 : XX d 136 25 [v0, v1, v2, v3, v4] (.int y :: .int x :: st) A Q ↔ if y < x then XX d 136 60 [v0, v1, v2, v3, v4] st A Q else XX d 136 28 [v0, v1, v2, v3, v4] st A Q := b_gt i_136_25 rfl rfl rfl
theorem q_136_28 : XX d 136 28 [v0, v1, some (.ref a), v3, v4] st A Q ↔ XX d 136 29 [v0, v1, some (.ref a), v3, v4] (.ref a :: st) A Q := c_lcl i_136_28 rfl rfl
theorem q_136_29 : XX d 136 29 [v0, v1, v2, v3, some (.int x)] st A Q ↔ XX d 136 31 [v0, v1, v2, v3, some (.int x)] (.int x :: st) A Q := c_lcl i_136_29 rfl rfl
theorem q_136_31 : XX (d + 1) 136 31 [v0, v1, v2, v3, v4] [.int x1, .ref a0] (mk S I L R G) Q ↔ S a0 = some (.inr 9) ∧ XC d 84 [.ref a0, .int x1] (mk S I L R G) (XK (d + 1) 136 31 [v0, v1, v2, v3, v4] [] Q) := c_callV i_136_31 rfl rfl rfl rfl (Nat.le_of_ble_eq_true rfl) (Nat.le_of_ble_eq_true rfl) rfl
theorem q_136_34 : XX d 136 34 [v0, v1, v2, v3, v4] (.int x :: st) A Q ↔ if x = w 0 then XX d 136 54 [v0, v1, v2, v3, v4] st A Q else XX d 136 37 [v0, v1, v2, v3, v4] st A Q := z_eq i_136_34 rfl rfl rfl
theorem q_136_37 : XX d 136 37 [v0, v1, some (.ref a), v3, v4] st A Q ↔ XX d 136 38 [v0, v1, some (.ref a), v3, v4] (.ref a :: st) A Q := c_lcl i_136_37 rfl rfl
theorem q_136_38 : XX d 136 38 [v0, v1, v2, v3, v4] (.ref a :: st) (mk S I L R G) Q ↔ S a = some (.inr 9) ∧ XX d 136 41 [v0, v1, v2, v3, v4] (.ref (a + 1) :: st) (mk S I L R G) Q := r_gf i_136_38 rfl (by decide) rfl
theorem q_136_41 : XX d 136 41 [v0, v1, v2, v3, some (.int x)] st A Q ↔ XX d 136 43 [v0, v1, v2, v3, some (.int x)] (.int x :: st) A Q := c_lcl i_136_41 rfl rfl
theorem q_136_43 : XX (d + 1) 136 43 [v0, v1, v2, v3, v4] [.int x1, .ref a0] (mk S I L R G) Q ↔ S a0 = some (.inr 4) ∧ XC d 38 [.ref a0, .int x1] (mk S I L R G) (XK (d + 1) 136 43 [v0, v1, v2, v3, v4] [] Q) := c_callV i_136_43 rfl rfl rfl rfl (Nat.le_of_ble_eq_true rfl) (Nat.le_of_ble_eq_true rfl) rfl
theorem q_136_46 : XX d 136 46 [v0, v1, v2, v3, some (.int x)] st A Q ↔ XX d 136 48 [v0, v1, v2, v3, some (.int x)] (.int x :: st) A Q := c_lcl i_136_46 rfl rfl
theorem q_136_48 : XX d 136 48 [v0, v1, v2, v3, v4] (.int y :: .int x :: st) A Q ↔ if x = y then XX d 136 51 [v0, v1, v2, v3, v4] st A Q else XX d 136 54 [v0, v1, v2, v3, v4] st A Q := b_ne i_136_48 rfl rfl rfl
theorem q_136_51 : XX d 136 51 [v0, v1, some (.ref b), some (.int x), v4] st A Q ↔ XX d 136 54 [v0, v1, some (.ref b), some (.int (x + w 1)), v4] st A Q := c_lcl i_136_51 rfl rfl
theorem q_136_54 : XX d 136 54 [v0, v1, v2, some (.int z), some (.int x)] st A Q ↔ XX d 136 57 [v0, v1, v2, some (.int z), some (.int (x + w 1))] st A Q := c_lcl i_136_54 rfl rfl
theorem q_136_57 : XX d 136 57 [v0, v1, v2, v3, v4] st A Q ↔ XX d 136 16 [v0, v1, v2, v3, v4] st A Q := c_go i_136_57 rfl rfl
theorem q_136_60 : XX d 136 60 [v0, v1, v2, some (.int x), v4] st A Q ↔ XX d 136 61 [v0, v1, v2, some (.int x), v4] (.int x :: st) A Q := c_lcl i_136_60 rfl rfl
theorem q_136_61 : XX d 136 61 [v0, v1, v2, v3, v4] [.int x] A Q ↔ Q (.inl (some (.int x))) A := e_retI i_136_61 rfl
theorem q_136_e : XC d 136 [.ref a0, .int x1] A Q ↔ XX d 136 0 [some (.ref a0), some (.int x1), none, none, none] [] A Q := Iff.rfl
theorem i_137_0 : t_ins 137 0 = some (.aload_n 0) := by decide +kernel
theorem i_137_1 : t_ins 137 1 = some (.iload_n 1) := by decide +kernel
theorem i_137_2 : t_ins 137 2 = some (.invokevirtual 206) := by decide +kernel
theorem i_137_5 : t_ins 137 5 = some (.aload_n 0) := by decide +kernel
theorem i_137_6 : t_ins 137 6 = some (.iload_n 2) := by decide +kernel
theorem i_137_7 : t_ins 137 7 = some (.iconst 0) := by decide +kernel
theorem i_137_8 : t_ins 137 8 = some (.iconst 2) := by decide +kernel
theorem i_137_9 : t_ins 137 9 = some (.invokevirtual 89) := by decide +kernel
theorem i_137_12 : t_ins 137 12 = some (.aload_n 0) := by decide +kernel
theorem i_137_13 : t_ins 137 13 = some (.getfield 57) := by decide +kernel
theorem i_137_16 : t_ins 137 16 = some (.aload_n 0) := by decide +kernel
theorem i_137_17 : t_ins 137 17 = some (.iload_n 1) := by decide +kernel
theorem i_137_18 : t_ins 137 18 = some (.invokevirtual 154) := by decide +kernel
theorem i_137_21 : t_ins 137 21 = some (.aload_n 0) := by decide +kernel
theorem i_137_22 : t_ins 137 22 = some (.getfield 19) := by decide +kernel
theorem i_137_25 : t_ins 137 25 = some (.getfield 137) := by decide +kernel
theorem i_137_28 : t_ins 137 28 = some (.invokevirtual 315) := by decide +kernel
theorem i_137_31 : t_ins 137 31 = some (.iload_n 2) := by decide +kernel
theorem i_137_32 : t_ins 137 32 = some (.lookupswitch 44 #[(0, 28), (1, 36)]) := by decide +kernel
theorem i_137_60 : t_ins 137 60 = some (.aload_n 0) := by decide +kernel
theorem i_137_61 : t_ins 137 61 = some (.getfield 57) := by decide +kernel
theorem i_137_64 : t_ins 137 64 = some (.getfield 319) := by decide +kernel
theorem i_137_67 : t_ins 137 67 = some (.ireturn) := by decide +kernel
theorem i_137_68 : t_ins 137 68 = some (.aload_n 0) := by decide +kernel
theorem i_137_69 : t_ins 137 69 = some (.getfield 57) := by decide +kernel
theorem i_137_72 : t_ins 137 72 = some (.invokevirtual 322) := by decide +kernel
theorem i_137_75 : t_ins 137 75 = some (.ireturn) := by decide +kernel
theorem i_137_76 : t_ins 137 76 = some (.aload_n 0) := by decide +kernel
theorem i_137_77 : t_ins 137 77 = some (.getfield 57) := by decide +kernel
theorem i_137_80 : t_ins 137 80 = some (.invokevirtual 325) := by decide +kernel
theorem i_137_83 : t_ins 137 83 = some (.ireturn) := by decide +kernel
theorem q_137_0 : XX d 137 0 [some (.ref a), v1, v2] st A Q ↔ XX d 137 1 [some (.ref a), v1, v2] (.ref a :: st) A Q := c_lcl i_137_0 rfl rfl
theorem q_137_1 : XX d 137 1 [v0, some (.int x), v2] st A Q ↔ XX d 137 2 [v0, some (.int x), v2] (.int x :: st) A Q := c_lcl i_137_1 rfl rfl
theorem q_137_2 : XX (d + 1) 137 2 [v0, v1, v2] [.int x1, .ref a0] (mk S I L R G) Q ↔ S a0 = some (.inr 11) ∧ XC d 143 [.ref a0, .int x1] (mk S I L R G) (XK (d + 1) 137 2 [v0, v1, v2] [] Q) := c_callV i_137_2 rfl rfl rfl rfl (Nat.le_of_ble_eq_true rfl) (Nat.le_of_ble_eq_true rfl) rfl
theorem q_137_5 : XX d 137 5 [some (.ref a), v1, v2] st A Q ↔ XX d 137 6 [some (.ref a), v1, v2] (.ref a :: st) A Q := c_lcl i_137_5 rfl rfl
theorem q_137_6 : XX d 137 6 [v0, v1, some (.int x)] st A Q ↔ XX d 137 7 [v0, v1, some (.int x)] (.int x :: st) A Q := c_lcl i_137_6 rfl rfl
theorem q_137_7 : XX d 137 7 [v0, v1, v2] st A Q ↔ XX d 137 8 [v0, v1, v2] (.int (w 0) :: st) A Q := c_stk i_137_7 rfl
theorem q_137_8 : XX d 137 8 [v0, v1, v2] st A Q ↔ XX d 137 9 [v0, v1, v2] (.int (w 2) :: st) A Q := c_stk i_137_8 rfl
theorem q_137_9 : XX (d + 1) 137 9 [v0, v1, v2] [.int x3, .int x2, .int x1, .ref a0] (mk S I L R G) Q ↔ S a0 = some (.inr 11) ∧ XC d 146 [.ref a0, .int x1, .int x2, .int x3] (mk S I L R G) (XK (d + 1) 137 9 [v0, v1, v2] [] Q) := c_callV i_137_9 rfl rfl rfl rfl (Nat.le_of_ble_eq_true rfl) (Nat.le_of_ble_eq_true rfl) rfl
theorem q_137_12 : XX d 137 12 [some (.ref a), v1, v2] st A Q ↔ XX d 137 13 [some (.ref a), v1, v2] (.ref a :: st) A Q := c_lcl i_137_12 rfl rfl
theorem q_137_13 : XX d 137 13 [v0, v1, v2] (.ref a :: st) (mk S I L R G) Q ↔ S a = some (.inr 11) ∧ XX d 137 16 [v0, v1, v2] (.ref (a + 108) :: st) (mk S I L R G) Q := r_gf i_137_13 rfl (by decide) rfl
theorem q_137_16 : XX d 137 16 [some (.ref a), v1, v2] st A Q ↔ XX d 137 17 [some (.ref a), v1, v2] (.ref a :: st) A Q := c_lcl i_137_16 rfl rfl
theorem q_137_17 : XX d 137 17 [v0, some (.int x), v2] st A Q ↔ XX d 137 18 [v0, some (.int x), v2] (.int x :: st) A Q := c_lcl i_137_17 rfl rfl
theorem q_137_18 : XX (d + 1) 137 18 [v0, v1, v2] [.int x1, .ref a0, .ref a2] (mk S I L R G) Q ↔ S a0 = some (.inr 11) ∧ XC d 142 [.ref a0, .int x1] (mk S I L R G) (XK (d + 1) 137 18 [v0, v1, v2] [.ref a2] Q) := c_callV i_137_18 rfl rfl rfl rfl (Nat.le_of_ble_eq_true rfl) (Nat.le_of_ble_eq_true rfl) rfl
theorem q_137_21 : XX d 137 21 [some (.ref a), v1, v2] st A Q ↔ XX d 137 22 [some (.ref a), v1, v2] (.ref a :: st) A Q := c_lcl i_137_21 rfl rfl
theorem q_137_22 : XX d 137 22 [v0, v1, v2] (.ref a :: st) (mk S I L R G) Q ↔ S a = some (.inr 11) ∧ XX d 137 25 [v0, v1, v2] (.ref (a + 3) :: st) (mk S I L R G) Q := r_gf i_137_22 rfl (by decide) rfl
theorem q_137_25 : XX d 137 25 [v0, v1, v2] (.ref a :: st) (mk S I L R G) Q ↔ S a = some (.inr 0) ∧ XX d 137 28 [v0, v1, v2] (.int (I a 2) :: st) (mk S I L R G) Q := r_gf i_137_25 rfl (by decide) rfl
theorem q_137_28 : XX (d + 1) 137 28 [v0, v1, v2] [.int x2, .ref a1, .ref a0] (mk S I L R G) Q ↔ S a0 = some (.inr 10) ∧ XC d 97 [.ref a0, .ref a1, .int x2] (mk S I L R G) (XK (d + 1) 137 28 [v0, v1, v2] [] Q) := c_callV i_137_28 rfl rfl rfl rfl (Nat.le_of_ble_eq_true rfl) (Nat.le_of_ble_eq_true rfl) rfl
theorem q_137_31 : XX d 137 31 [v0, v1, some (.int x)] st A Q ↔ XX d 137 32 [v0, v1, some (.int x)] (.int x :: st) A Q := c_lcl i_137_31 rfl rfl
theorem q_137_32 : XX d 137 32 [v0, v1, v2] (.int x :: st) A Q ↔ XX d 137 (swL [(0, 60), (1, 68)] 76 x.toInt) [v0, v1, v2] st A Q := c_look i_137_32 rfl rfl rfl rfl
theorem q_137_60 : XX d 137 60 [some (.ref a), v1, v2] st A Q ↔ XX d 137 61 [some (.ref a), v1, v2] (.ref a :: st) A Q := c_lcl i_137_60 rfl rfl
theorem q_137_61 : XX d 137 61 [v0, v1, v2] (.ref a :: st) (mk S I L R G) Q ↔ S a = some (.inr 11) ∧ XX d 137 64 [v0, v1, v2] (.ref (a + 108) :: st) (mk S I L R G) Q := r_gf i_137_61 rfl (by decide) rfl
theorem q_137_64 : XX d 137 64 [v0, v1, v2] (.ref a :: st) (mk S I L R G) Q ↔ S a = some (.inr 10) ∧ XX d 137 67 [v0, v1, v2] (.int (I a 3) :: st) (mk S I L R G) Q := r_gf i_137_64 rfl (by decide) rfl
theorem q_137_67 : XX d 137 67 [v0, v1, v2] [.int x] A Q ↔ Q (.inl (some (.int x))) A := e_retI i_137_67 rfl
theorem q_137_68 : XX d 137 68 [some (.ref a), v1, v2] st A Q ↔ XX d 137 69 [some (.ref a), v1, v2] (.ref a :: st) A Q := c_lcl i_137_68 rfl rfl
theorem q_137_69 : XX d 137 69 [v0, v1, v2] (.ref a :: st) (mk S I L R G) Q ↔ S a = some (.inr 11) ∧ XX d 137 72 [v0, v1, v2] (.ref (a + 108) :: st) (mk S I L R G) Q := r_gf i_137_69 rfl (by decide) rfl
theorem q_137_72 : XX (d + 1) 137 72 [v0, v1, v2] [.ref a0] (mk S I L R G) Q ↔ S a0 = some (.inr 10) ∧ XC d 102 [.ref a0] (mk S I L R G) (XK (d + 1) 137 72 [v0, v1, v2] [] Q) := c_callV i_137_72 rfl rfl rfl rfl (Nat.le_of_ble_eq_true rfl) (Nat.le_of_ble_eq_true rfl) rfl
theorem q_137_75 : XX d 137 75 [v0, v1, v2] [.int x] A Q ↔ Q (.inl (some (.int x))) A := e_retI i_137_75 rfl
theorem q_137_76 : XX d 137 76 [some (.ref a), v1, v2] st A Q ↔ XX d 137 77 [some (.ref a), v1, v2] (.ref a :: st) A Q := c_lcl i_137_76 rfl rfl
theorem q_137_77 : XX d 137 77 [v0, v1, v2] (.ref a :: st) (mk S I L R G) Q ↔ S a = some (.inr 11) ∧ XX d 137 80 [v0, v1, v2] (.ref (a + 108) :: st) (mk S I L R G) Q := r_gf i_137_77 rfl (by decide) rfl
theorem q_137_80 : XX (d + 1) 137 80 [v0, v1, v2] [.ref a0] (mk S I L R G) Q ↔ S a0 = some (.inr 10) ∧ XC d 103 [.ref a0] (mk S I L R G) (XK (d + 1) 137 80 [v0, v1, v2] [] Q) := c_callV i_137_80 rfl rfl rfl rfl (Nat.le_of_ble_eq_true rfl) (Nat.le_of_ble_eq_true rfl) rfl
theorem q_137_83 : XX d 137 83 [v0, v1, v2] [.int x] A Q ↔ Q (.inl (some (.int x))) A := e_retI i_137_83 rfl
theorem q_137_e : XC d 137 [.ref a0, .int x1, .int x2] A Q ↔ XX d 137 0 [some (.ref a0), some (.int x1), some (.int x2)] [] A Q := Iff.rfl
theorem i_138_0 : t_ins 138 0 = some (.aload_n 0) := by decide +kernel
theorem i_138_1 : t_ins 138 1 = some (.iload_n 1) := by decide +kernel
theorem i_138_2 : t_ins 138 2 = some (.invokevirtual 206) := by decide +kernel
theorem i_138_5 : t_ins 138 5 = some (.aload_n 0) := by decide +kernel
theorem i_138_6 : t_ins 138 6 = some (.iload_n 1) := by decide +kernel
theorem i_138_7 : t_ins 138 7 = some (.invokevirtual 154) := by decide +kernel
theorem i_138_10 : t_ins 138 10 = some (.astore_n 2) := by decide +kernel
theorem i_138_11 : t_ins 138 11 = some (.aload_n 2) := by decide +kernel
theorem i_138_12 : t_ins 138 12 = some (.aload_n 0) := by decide +kernel
theorem i_138_13 : t_ins 138 13 = some (.getfield 19) := by decide +kernel
theorem i_138_16 : t_ins 138 16 = some (.getfield 137) := by decide +kernel
theorem i_138_19 : t_ins 138 19 = some (.invokevirtual 328) := by decide +kernel
theorem i_138_22 : t_ins 138 22 = some (.iconst 0) := by decide +kernel
theorem i_138_23 : t_ins 138 23 = some (.istore_n 3) := by decide +kernel
theorem i_138_24 : t_ins 138 24 = some (.iconst 0) := by decide +kernel
theorem i_138_25 : t_ins 138 25 = some (.istore 4) := by decide +kernel
theorem i_138_27 : t_ins 138 27 = some (.iload 4) := by decide +kernel
theorem i_138_29 : t_ins 138 29 = some (.aload_n 0) := by decide +kernel
theorem i_138_30 : t_ins 138 30 = some (.getfield 19) := by decide +kernel
theorem i_138_33 : t_ins 138 33 = some (.iload_n 1) := by decide +kernel
theorem i_138_34 : t_ins 138 34 = some (.invokevirtual 133) := by decide +kernel
theorem i_138_37 : t_ins 138 37 = some (.if_icmp .ge 73) := by decide +kernel
theorem i_138_40 : t_ins 138 40 = some (.iconst 0) := by decide +kernel
theorem i_138_41 : t_ins 138 41 = some (.istore 5) := by decide +kernel
theorem i_138_43 : t_ins 138 43 = some (.aload_n 2) := by decide +kernel
theorem i_138_44 : t_ins 138 44 = some (.iload 4) := by decide +kernel
theorem i_138_46 : t_ins 138 46 = some (.invokevirtual 331) := by decide +kernel
theorem i_138_49 : t_ins 138 49 = some (.ifCond .eq 43) := by decide +kernel
theorem i_138_52 : t_ins 138 52 = some (.aload_n 0) := by decide +kernel
theorem i_138_53 : t_ins 138 53 = some (.getfield 50) := by decide +kernel
theorem i_138_56 : t_ins 138 56 = some (.aload_n 0) := by decide +kernel
theorem i_138_57 : t_ins 138 57 = some (.getfield 19) := by decide +kernel
theorem i_138_60 : t_ins 138 60 = some (.iload_n 1) := by decide +kernel
theorem i_138_61 : t_ins 138 61 = some (.iload 4) := by decide +kernel
theorem i_138_63 : t_ins 138 63 = some (.invokevirtual 151) := by decide +kernel
theorem i_138_66 : t_ins 138 66 = some (.aload_n 0) := by decide +kernel
theorem i_138_67 : t_ins 138 67 = some (.getfield 50) := by decide +kernel
theorem i_138_70 : t_ins 138 70 = some (.aload_n 2) := by decide +kernel
theorem i_138_71 : t_ins 138 71 = some (.aload_n 0) := by decide +kernel
theorem i_138_72 : t_ins 138 72 = some (.getfield 19) := by decide +kernel
theorem i_138_75 : t_ins 138 75 = some (.getfield 137) := by decide +kernel
theorem i_138_78 : t_ins 138 78 = some (.iconst 1) := by decide +kernel
theorem i_138_79 : t_ins 138 79 = some (.invokevirtual 158) := by decide +kernel
theorem i_138_82 : t_ins 138 82 = some (.ifCond .le 7) := by decide +kernel
theorem i_138_85 : t_ins 138 85 = some (.iconst 1) := by decide +kernel
theorem i_138_86 : t_ins 138 86 = some (.goto 4) := by decide +kernel
theorem i_138_89 : t_ins 138 89 = some (.iconst 0) := by decide +kernel
theorem i_138_90 : t_ins 138 90 = some (.istore 5) := by decide +kernel
theorem i_138_92 : t_ins 138 92 = some (.iload 5) := by decide +kernel
theorem i_138_94 : t_ins 138 94 = some (.ifCond .ne 10) := by decide +kernel
theorem i_138_97 : t_ins 138 97 = some (.iload_n 3) := by decide +kernel
theorem i_138_98 : t_ins 138 98 = some (.iconst 1) := by decide +kernel
theorem i_138_99 : t_ins 138 99 = some (.iload 4) := by decide +kernel
theorem i_138_101 : t_ins 138 101 = some (.ishl) := by decide +kernel
theorem i_138_102 : t_ins 138 102 = some (.ior) := by decide +kernel
theorem i_138_103 : t_ins 138 103 = some (.istore_n 3) := by decide +kernel
theorem i_138_104 : t_ins 138 104 = some (.iinc 4 1) := by decide +kernel
theorem i_138_107 : t_ins 138 107 = some (.goto (-80)) := by decide +kernel
theorem i_138_110 : t_ins 138 110 = some (.iload_n 3) := by decide +kernel
theorem i_138_111 : t_ins 138 111 = some (.ireturn) := by decide +kernel
theorem q_138_0 : XX d 138 0 [some (.ref a), v1, v2, v3, v4, v5] st A Q ↔ XX d 138 1 [some (.ref a), v1, v2, v3, v4, v5] (.ref a :: st) A Q := c_lcl i_138_0 rfl rfl
theorem q_138_1 : XX d 138 1 [v0, some (.int x), v2, v3, v4, v5] st A Q ↔ XX d 138 2 [v0, some (.int x), v2, v3, v4, v5] (.int x :: st) A Q := c_lcl i_138_1 rfl rfl
theorem q_138_2 : XX (d + 1) 138 2 [v0, v1, v2, v3, v4, v5] [.int x1, .ref a0] (mk S I L R G) Q ↔ S a0 = some (.inr 11) ∧ XC d 143 [.ref a0, .int x1] (mk S I L R G) (XK (d + 1) 138 2 [v0, v1, v2, v3, v4, v5] [] Q) := c_callV i_138_2 rfl rfl rfl rfl (Nat.le_of_ble_eq_true rfl) (Nat.le_of_ble_eq_true rfl) rfl
theorem q_138_5 : XX d 138 5 [some (.ref a), v1, v2, v3, v4, v5] st A Q ↔ XX d 138 6 [some (.ref a), v1, v2, v3, v4, v5] (.ref a :: st) A Q := c_lcl i_138_5 rfl rfl
theorem q_138_6 : XX d 138 6 [v0, some (.int x), v2, v3, v4, v5] st A Q ↔ XX d 138 7 [v0, some (.int x), v2, v3, v4, v5] (.int x :: st) A Q := c_lcl i_138_6 rfl rfl
theorem q_138_7 : XX (d + 1) 138 7 [v0, v1, v2, v3, v4, v5] [.int x1, .ref a0] (mk S I L R G) Q ↔ S a0 = some (.inr 11) ∧ XC d 142 [.ref a0, .int x1] (mk S I L R G) (XK (d + 1) 138 7 [v0, v1, v2, v3, v4, v5] [] Q) := c_callV i_138_7 rfl rfl rfl rfl (Nat.le_of_ble_eq_true rfl) (Nat.le_of_ble_eq_true rfl) rfl
theorem q_138_10 : XX d 138 10 [v0, some (.int z), v2, v3, v4, v5] (.ref a :: st) A Q ↔ XX d 138 11 [v0, some (.int z), some (.ref a), v3, v4, v5] st A Q := c_lcl i_138_10 rfl rfl
theorem q_138_11 : XX d 138 11 [v0, v1, some (.ref a), v3, v4, v5] st A Q ↔ XX d 138 12 [v0, v1, some (.ref a), v3, v4, v5] (.ref a :: st) A Q := c_lcl i_138_11 rfl rfl
theorem q_138_12 : XX d 138 12 [some (.ref a), v1, v2, v3, v4, v5] st A Q ↔ XX d 138 13 [some (.ref a), v1, v2, v3, v4, v5] (.ref a :: st) A Q := c_lcl i_138_12 rfl rfl
theorem q_138_13 : XX d 138 13 [v0, v1, v2, v3, v4, v5] (.ref a :: st) (mk S I L R G) Q ↔ S a = some (.inr 11) ∧ XX d 138 16 [v0, v1, v2, v3, v4, v5] (.ref (a + 3) :: st) (mk S I L R G) Q := r_gf i_138_13 rfl (by decide) rfl
theorem q_138_16 : XX d 138 16 [v0, v1, v2, v3, v4, v5] (.ref a :: st) (mk S I L R G) Q ↔ S a = some (.inr 0) ∧ XX d 138 19 [v0, v1, v2, v3, v4, v5] (.int (I a 2) :: st) (mk S I L R G) Q := r_gf i_138_16 rfl (by decide) rfl
theorem q_138_19 : XX (d + 1) 138 19 [v0, v1, v2, v3, v4, v5] [.int x1, .ref a0] (mk S I L R G) Q ↔ S a0 = some (.inr 9) ∧ XC d 85 [.ref a0, .int x1] (mk S I L R G) (XK (d + 1) 138 19 [v0, v1, v2, v3, v4, v5] [] Q) := c_callV i_138_19 rfl rfl rfl rfl (Nat.le_of_ble_eq_true rfl) (Nat.le_of_ble_eq_true rfl) rfl
theorem q_138_22 : XX d 138 22 [v0, v1, v2, v3, v4, v5] st A Q ↔ XX d 138 23 [v0, v1, v2, v3, v4, v5] (.int (w 0) :: st) A Q := c_stk i_138_22 rfl
theorem q_138_23 : XX d 138 23 [v0, v1, some (.ref b), v3, v4, v5] (.int x :: st) A Q ↔ XX d 138 24 [v0, v1, some (.ref b), some (.int x), v4, v5] st A Q := c_lcl i_138_23 rfl rfl
theorem q_138_24 : XX d 138 24 [v0, v1, v2, v3, v4, v5] st A Q ↔ XX d 138 25 [v0, v1, v2, v3, v4, v5] (.int (w 0) :: st) A Q := c_stk i_138_24 rfl
theorem q_138_25 : XX d 138 25 [v0, v1, v2, some (.int z), v4, v5] (.int x :: st) A Q ↔ XX d 138 27 [v0, v1, v2, some (.int z), some (.int x), v5] st A Q := c_lcl i_138_25 rfl rfl
theorem q_138_27 : XX d 138 27 [v0, v1, v2, v3, some (.int x), v5] st A Q ↔ XX d 138 29 [v0, v1, v2, v3, some (.int x), v5] (.int x :: st) A Q := c_lcl i_138_27 rfl rfl
theorem q_138_29 : XX d 138 29 [some (.ref a), v1, v2, v3, v4, v5] st A Q ↔ XX d 138 30 [some (.ref a), v1, v2, v3, v4, v5] (.ref a :: st) A Q := c_lcl i_138_29 rfl rfl
theorem q_138_30 : XX d 138 30 [v0, v1, v2, v3, v4, v5] (.ref a :: st) (mk S I L R G) Q ↔ S a = some (.inr 11) ∧ XX d 138 33 [v0, v1, v2, v3, v4, v5] (.ref (a + 3) :: st) (mk S I L R G) Q := r_gf i_138_30 rfl (by decide) rfl
theorem q_138_33 : XX d 138 33 [v0, some (.int x), v2, v3, v4, v5] st A Q ↔ XX d 138 34 [v0, some (.int x), v2, v3, v4, v5] (.int x :: st) A Q := c_lcl i_138_33 rfl rfl
theorem q_138_34 : XX (d + 1) 138 34 [v0, v1, v2, v3, v4, v5] [.int x1, .ref a0, .int x2] (mk S I L R G) Q ↔ S a0 = some (.inr 0) ∧ XC d 1 [.ref a0, .int x1] (mk S I L R G) (XK (d + 1) 138 34 [v0, v1, v2, v3, v4, v5] [.int x2] Q) := c_callV i_138_34 rfl rfl rfl rfl (Nat.le_of_ble_eq_true rfl) (Nat.le_of_ble_eq_true rfl) rfl
theorem q_138_37 : XX d 138 37 [v0, v1, v2, v3, v4, v5] (.int y :: .int x :: st) A Q ↔ if x < y then XX d 138 40 [v0, v1, v2, v3, v4, v5] st A Q else XX d 138 110 [v0, v1, v2, v3, v4, v5] st A Q := b_ge i_138_37 rfl rfl rfl
theorem q_138_40 : XX d 138 40 [v0, v1, v2, v3, v4, v5] st A Q ↔ XX d 138 41 [v0, v1, v2, v3, v4, v5] (.int (w 0) :: st) A Q := c_stk i_138_40 rfl
theorem q_138_41 : XX d 138 41 [v0, v1, v2, v3, some (.int z), v5] (.int x :: st) A Q ↔ XX d 138 43 [v0, v1, v2, v3, some (.int z), some (.int x)] st A Q := c_lcl i_138_41 rfl rfl
theorem q_138_43 : XX d 138 43 [v0, v1, some (.ref a), v3, v4, v5] st A Q ↔ XX d 138 44 [v0, v1, some (.ref a), v3, v4, v5] (.ref a :: st) A Q := c_lcl i_138_43 rfl rfl
theorem q_138_44 : XX d 138 44 [v0, v1, v2, v3, some (.int x), v5] st A Q ↔ XX d 138 46 [v0, v1, v2, v3, some (.int x), v5] (.int x :: st) A Q := c_lcl i_138_44 rfl rfl
theorem q_138_46 : XX (d + 1) 138 46 [v0, v1, v2, v3, v4, v5] [.int x1, .ref a0] (mk S I L R G) Q ↔ S a0 = some (.inr 9) ∧ XC d 86 [.ref a0, .int x1] (mk S I L R G) (XK (d + 1) 138 46 [v0, v1, v2, v3, v4, v5] [] Q) := c_callV i_138_46 rfl rfl rfl rfl (Nat.le_of_ble_eq_true rfl) (Nat.le_of_ble_eq_true rfl) rfl
theorem q_138_49 : XX d 138 49 [v0, v1, v2, v3, v4, v5] (.int x :: st) A Q ↔ if x = w 0 then XX d 138 92 [v0, v1, v2, v3, v4, v5] st A Q else XX d 138 52 [v0, v1, v2, v3, v4, v5] st A Q := z_eq i_138_49 rfl rfl rfl
theorem q_138_52 : XX d 138 52 [some (.ref a), v1, v2, v3, v4, v5] st A Q ↔ XX d 138 53 [some (.ref a), v1, v2, v3, v4, v5] (.ref a :: st) A Q := c_lcl i_138_52 rfl rfl
theorem q_138_53 : XX d 138 53 [v0, v1, v2, v3, v4, v5] (.ref a :: st) (mk S I L R G) Q ↔ S a = some (.inr 11) ∧ XX d 138 56 [v0, v1, v2, v3, v4, v5] (.ref (a + 91) :: st) (mk S I L R G) Q := r_gf i_138_53 rfl (by decide) rfl
theorem q_138_56 : XX d 138 56 [some (.ref a), v1, v2, v3, v4, v5] st A Q ↔ XX d 138 57 [some (.ref a), v1, v2, v3, v4, v5] (.ref a :: st) A Q := c_lcl i_138_56 rfl rfl
theorem q_138_57 : XX d 138 57 [v0, v1, v2, v3, v4, v5] (.ref a :: st) (mk S I L R G) Q ↔ S a = some (.inr 11) ∧ XX d 138 60 [v0, v1, v2, v3, v4, v5] (.ref (a + 3) :: st) (mk S I L R G) Q := r_gf i_138_57 rfl (by decide) rfl
theorem q_138_60 : XX d 138 60 [v0, some (.int x), v2, v3, v4, v5] st A Q ↔ XX d 138 61 [v0, some (.int x), v2, v3, v4, v5] (.int x :: st) A Q := c_lcl i_138_60 rfl rfl
theorem q_138_61 : XX d 138 61 [v0, v1, v2, v3, some (.int x), v5] st A Q ↔ XX d 138 63 [v0, v1, v2, v3, some (.int x), v5] (.int x :: st) A Q := c_lcl i_138_61 rfl rfl
theorem q_138_63 : XX (d + 1) 138 63 [v0, v1, v2, v3, v4, v5] [.int x3, .int x2, .ref a1, .ref a0] (mk S I L R G) Q ↔ S a0 = some (.inr 9) ∧ XC d 81 [.ref a0, .ref a1, .int x2, .int x3] (mk S I L R G) (XK (d + 1) 138 63 [v0, v1, v2, v3, v4, v5] [] Q) := c_callV i_138_63 rfl rfl rfl rfl (Nat.le_of_ble_eq_true rfl) (Nat.le_of_ble_eq_true rfl) rfl
theorem q_138_66 : XX d 138 66 [some (.ref a), v1, v2, v3, v4, v5] st A Q ↔ XX d 138 67 [some (.ref a), v1, v2, v3, v4, v5] (.ref a :: st) A Q := c_lcl i_138_66 rfl rfl
theorem q_138_67 : XX d 138 67 [v0, v1, v2, v3, v4, v5] (.ref a :: st) (mk S I L R G) Q ↔ S a = some (.inr 11) ∧ XX d 138 70 [v0, v1, v2, v3, v4, v5] (.ref (a + 91) :: st) (mk S I L R G) Q := r_gf i_138_67 rfl (by decide) rfl
theorem q_138_70 : XX d 138 70 [v0, v1, some (.ref a), v3, v4, v5] st A Q ↔ XX d 138 71 [v0, v1, some (.ref a), v3, v4, v5] (.ref a :: st) A Q := c_lcl i_138_70 rfl rfl
theorem q_138_71 : XX d 138 71 [some (.ref a), v1, v2, v3, v4, v5] st A Q ↔ XX d 138 72 [some (.ref a), v1, v2, v3, v4, v5] (.ref a :: st) A Q := c_lcl i_138_71 rfl rfl
theorem q_138_72 : XX d 138 72 [v0, v1, v2, v3, v4, v5] (.ref a :: st) (mk S I L R G) Q ↔ S a = some (.inr 11) ∧ XX d 138 75 [v0, v1, v2, v3, v4, v5] (.ref (a + 3) :: st) (mk S I L R G) Q := r_gf i_138_72 rfl (by decide) rfl
theorem q_138_75 : XX d 138 75 [v0, v1, v2, v3, v4, v5] (.ref a :: st) (mk S I L R G) Q ↔ S a = some (.inr 0) ∧ XX d 138 78 [v0, v1, v2, v3, v4, v5] (.int (I a 2) :: st) (mk S I L R G) Q := r_gf i_138_75 rfl (by decide) rfl
theorem q_138_78 : XX d 138 78 [v0, v1, v2, v3, v4, v5] st A Q ↔ XX d 138 79 [v0, v1, v2, v3, v4, v5] (.int (w 1) :: st) A Q := c_stk i_138_78 rfl
theorem q_138_79 : XX (d + 1) 138 79 [v0, v1, v2, v3, v4, v5] [.int x3, .int x2, .ref a1, .ref a0] (mk S I L R G) Q ↔ S a0 = some (.inr 9) ∧ XC d 88 [.ref a0, .ref a1, .int x2, .int x3] (mk S I L R G) (XK (d + 1) 138 79 [v0, v1, v2, v3, v4, v5] [] Q) := c_callV i_138_79 rfl rfl rfl rfl (Nat.le_of_ble_eq_true rfl) (Nat.le_of_ble_eq_true rfl) rfl
theorem q_138_82 : XX d 138 82 [v0, v1, v2, v3, v4, v5] (.int x :: st) A Q ↔ if w 0 < x then XX d 138 85 [v0, v1, v2, v3, v4, v5] st A Q else XX d 138 89 [v0, v1, v2, v3, v4, v5] st A Q := z_le i_138_82 rfl rfl rfl
theorem q_138_85 : XX d 138 85 [v0, v1, v2, v3, v4, v5] st A Q ↔ XX d 138 86 [v0, v1, v2, v3, v4, v5] (.int (w 1) :: st) A Q := c_stk i_138_85 rfl
theorem q_138_86 : XX d 138 86 [v0, v1, v2, v3, v4, v5] st A Q ↔ XX d 138 90 [v0, v1, v2, v3, v4, v5] st A Q := c_go i_138_86 rfl rfl
theorem q_138_89 : XX d 138 89 [v0, v1, v2, v3, v4, v5] st A Q ↔ XX d 138 90 [v0, v1, v2, v3, v4, v5] (.int (w 0) :: st) A Q := c_stk i_138_89 rfl
theorem q_138_90 : XX d 138 90 [v0, v1, v2, v3, some (.int z), v5] (.int x :: st) A Q ↔ XX d 138 92 [v0, v1, v2, v3, some (.int z), some (.int x)] st A Q := c_lcl i_138_90 rfl rfl
theorem q_138_92 : XX d 138 92 [v0, v1, v2, v3, v4, some (.int x)] st A Q ↔ XX d 138 94 [v0, v1, v2, v3, v4, some (.int x)] (.int x :: st) A Q := c_lcl i_138_92 rfl rfl
theorem q_138_94 : XX d 138 94 [v0, v1, v2, v3, v4, v5] (.int x :: st) A Q ↔ if x = w 0 then XX d 138 97 [v0, v1, v2, v3, v4, v5] st A Q else XX d 138 104 [v0, v1, v2, v3, v4, v5] st A Q := z_ne i_138_94 rfl rfl rfl
theorem q_138_97 : XX d 138 97 [v0, v1, v2, some (.int x), v4, v5] st A Q ↔ XX d 138 98 [v0, v1, v2, some (.int x), v4, v5] (.int x :: st) A Q := c_lcl i_138_97 rfl rfl
theorem q_138_98 : XX d 138 98 [v0, v1, v2, v3, v4, v5] st A Q ↔ XX d 138 99 [v0, v1, v2, v3, v4, v5] (.int (w 1) :: st) A Q := c_stk i_138_98 rfl
theorem q_138_99 : XX d 138 99 [v0, v1, v2, v3, some (.int x), v5] st A Q ↔ XX d 138 101 [v0, v1, v2, v3, some (.int x), v5] (.int x :: st) A Q := c_lcl i_138_99 rfl rfl
theorem q_138_101 : XX d 138 101 [v0, v1, v2, v3, v4, v5] (.int y :: .int x :: st) A Q ↔ XX d 138 102 [v0, v1, v2, v3, v4, v5] (.int (x <<< (y &&& 31)) :: st) A Q := c_stk i_138_101 rfl
theorem q_138_102 : XX d 138 102 [v0, v1, v2, v3, v4, v5] (.int y :: .int x :: st) A Q ↔ XX d 138 103 [v0, v1, v2, v3, v4, v5] (.int (x ||| y) :: st) A Q := c_stk i_138_102 rfl
theorem q_138_103 : XX d 138 103 [v0, v1, some (.ref b), v3, v4, v5] (.int x :: st) A Q ↔ XX d 138 104 [v0, v1, some (.ref b), some (.int x), v4, v5] st A Q := c_lcl i_138_103 rfl rfl
theorem q_138_104 : XX d 138 104 [v0, v1, v2, some (.int z), some (.int x), v5] st A Q ↔ XX d 138 107 [v0, v1, v2, some (.int z), some (.int (x + w 1)), v5] st A Q := c_lcl i_138_104 rfl rfl
theorem q_138_107 : XX d 138 107 [v0, v1, v2, v3, v4, v5] st A Q ↔ XX d 138 27 [v0, v1, v2, v3, v4, v5] st A Q := c_go i_138_107 rfl rfl
theorem q_138_110 : XX d 138 110 [v0, v1, v2, some (.int x), v4, v5] st A Q ↔ XX d 138 111 [v0, v1, v2, some (.int x), v4, v5] (.int x :: st) A Q := c_lcl i_138_110 rfl rfl
theorem q_138_111 : XX d 138 111 [v0, v1, v2, v3, v4, v5] [.int x] A Q ↔ Q (.inl (some (.int x))) A := e_retI i_138_111 rfl
theorem q_138_e : XC d 138 [.ref a0, .int x1] A Q ↔ XX d 138 0 [some (.ref a0), some (.int x1), none, none, none, none] [] A Q := Iff.rfl
theorem i_139_0 : t_ins 139 0 = some (.aload_n 0) := by decide +kernel
theorem i_139_1 : t_ins 139 1 = some (.iload_n 1) := by decide +kernel
theorem i_139_2 : t_ins 139 2 = some (.invokevirtual 206) := by decide +kernel
theorem i_139_5 : t_ins 139 5 = some (.aload_n 0) := by decide +kernel
theorem i_139_6 : t_ins 139 6 = some (.iload_n 1) := by decide +kernel
theorem i_139_7 : t_ins 139 7 = some (.invokevirtual 154) := by decide +kernel
theorem i_139_10 : t_ins 139 10 = some (.astore_n 2) := by decide +kernel
theorem i_139_11 : t_ins 139 11 = some (.lconst 0) := by decide +kernel
theorem i_139_12 : t_ins 139 12 = some (.lstore_n 3) := by decide +kernel
theorem i_139_13 : t_ins 139 13 = some (.iconst 0) := by decide +kernel
theorem i_139_14 : t_ins 139 14 = some (.istore 5) := by decide +kernel
theorem i_139_16 : t_ins 139 16 = some (.iload 5) := by decide +kernel
theorem i_139_18 : t_ins 139 18 = some (.aload_n 0) := by decide +kernel
theorem i_139_19 : t_ins 139 19 = some (.getfield 19) := by decide +kernel
theorem i_139_22 : t_ins 139 22 = some (.getfield 137) := by decide +kernel
theorem i_139_25 : t_ins 139 25 = some (.if_icmp .gt 39) := by decide +kernel
theorem i_139_28 : t_ins 139 28 = some (.ldc2_w 334) := by decide +kernel
theorem i_139_31 : t_ins 139 31 = some (.lload_n 3) := by decide +kernel
theorem i_139_32 : t_ins 139 32 = some (.lmul) := by decide +kernel
theorem i_139_33 : t_ins 139 33 = some (.aload_n 2) := by decide +kernel
theorem i_139_34 : t_ins 139 34 = some (.iload 5) := by decide +kernel
theorem i_139_36 : t_ins 139 36 = some (.invokevirtual 213) := by decide +kernel
theorem i_139_39 : t_ins 139 39 = some (.ifCond .eq 15) := by decide +kernel
theorem i_139_42 : t_ins 139 42 = some (.aload_n 2) := by decide +kernel
theorem i_139_43 : t_ins 139 43 = some (.getfield 217) := by decide +kernel
theorem i_139_46 : t_ins 139 46 = some (.iload 5) := by decide +kernel
theorem i_139_48 : t_ins 139 48 = some (.invokevirtual 336) := by decide +kernel
theorem i_139_51 : t_ins 139 51 = some (.goto 4) := by decide +kernel
theorem i_139_54 : t_ins 139 54 = some (.iconst 1) := by decide +kernel
theorem i_139_55 : t_ins 139 55 = some (.i2l) := by decide +kernel
theorem i_139_56 : t_ins 139 56 = some (.ladd) := by decide +kernel
theorem i_139_57 : t_ins 139 57 = some (.lstore_n 3) := by decide +kernel
theorem i_139_58 : t_ins 139 58 = some (.iinc 5 1) := by decide +kernel
theorem i_139_61 : t_ins 139 61 = some (.goto (-45)) := by decide +kernel
theorem i_139_64 : t_ins 139 64 = some (.lload_n 3) := by decide +kernel
theorem i_139_65 : t_ins 139 65 = some (.lreturn) := by decide +kernel
theorem q_139_0 : XX d 139 0 [some (.ref a), v1, v2, v3, v4, v5] st A Q ↔ XX d 139 1 [some (.ref a), v1, v2, v3, v4, v5] (.ref a :: st) A Q := c_lcl i_139_0 rfl rfl
theorem q_139_1 : XX d 139 1 [v0, some (.int x), v2, v3, v4, v5] st A Q ↔ XX d 139 2 [v0, some (.int x), v2, v3, v4, v5] (.int x :: st) A Q := c_lcl i_139_1 rfl rfl
theorem q_139_2 : XX (d + 1) 139 2 [v0, v1, v2, v3, v4, v5] [.int x1, .ref a0] (mk S I L R G) Q ↔ S a0 = some (.inr 11) ∧ XC d 143 [.ref a0, .int x1] (mk S I L R G) (XK (d + 1) 139 2 [v0, v1, v2, v3, v4, v5] [] Q) := c_callV i_139_2 rfl rfl rfl rfl (Nat.le_of_ble_eq_true rfl) (Nat.le_of_ble_eq_true rfl) rfl
theorem q_139_5 : XX d 139 5 [some (.ref a), v1, v2, v3, v4, v5] st A Q ↔ XX d 139 6 [some (.ref a), v1, v2, v3, v4, v5] (.ref a :: st) A Q := c_lcl i_139_5 rfl rfl
theorem q_139_6 : XX d 139 6 [v0, some (.int x), v2, v3, v4, v5] st A Q ↔ XX d 139 7 [v0, some (.int x), v2, v3, v4, v5] (.int x :: st) A Q := c_lcl i_139_6 rfl rfl
theorem q_139_7 : XX (d + 1) 139 7 [v0, v1, v2, v3, v4, v5] [.int x1, .ref a0] (mk S I L R G) Q ↔ S a0 = some (.inr 11) ∧ XC d 142 [.ref a0, .int x1] (mk S I L R G) (XK (d + 1) 139 7 [v0, v1, v2, v3, v4, v5] [] Q) := c_callV i_139_7 rfl rfl rfl rfl (Nat.le_of_ble_eq_true rfl) (Nat.le_of_ble_eq_true rfl) rfl
theorem q_139_10 : XX d 139 10 [v0, some (.int z), v2, v3, v4, v5] (.ref a :: st) A Q ↔ XX d 139 11 [v0, some (.int z), some (.ref a), v3, v4, v5] st A Q := c_lcl i_139_10 rfl rfl
theorem q_139_11 : XX d 139 11 [v0, v1, v2, v3, v4, v5] st A Q ↔ XX d 139 12 [v0, v1, v2, v3, v4, v5] (.long (wl 0) :: st) A Q := c_stk i_139_11 rfl
theorem q_139_12 : XX d 139 12 [v0, v1, some (.ref b), v3, v4, v5] (.long lx :: st) A Q ↔ XX d 139 13 [v0, v1, some (.ref b), some (.long lx), none, v5] st A Q := c_lcl i_139_12 rfl rfl
theorem q_139_13 : XX d 139 13 [v0, v1, v2, v3, v4, v5] st A Q ↔ XX d 139 14 [v0, v1, v2, v3, v4, v5] (.int (w 0) :: st) A Q := c_stk i_139_13 rfl
theorem q_139_14 : XX d 139 14 [v0, v1, v2, v3, none, v5] (.int x :: st) A Q ↔ XX d 139 16 [v0, v1, v2, v3, none, some (.int x)] st A Q := c_lcl i_139_14 rfl rfl
theorem q_139_16 : XX d 139 16 [v0, v1, v2, v3, v4, some (.int x)] st A Q ↔ XX d 139 18 [v0, v1, v2, v3, v4, some (.int x)] (.int x :: st) A Q := c_lcl i_139_16 rfl rfl
theorem q_139_18 : XX d 139 18 [some (.ref a), v1, v2, v3, v4, v5] st A Q ↔ XX d 139 19 [some (.ref a), v1, v2, v3, v4, v5] (.ref a :: st) A Q := c_lcl i_139_18 rfl rfl
theorem q_139_19 : XX d 139 19 [v0, v1, v2, v3, v4, v5] (.ref a :: st) (mk S I L R G) Q ↔ S a = some (.inr 11) ∧ XX d 139 22 [v0, v1, v2, v3, v4, v5] (.ref (a + 3) :: st) (mk S I L R G) Q := r_gf i_139_19 rfl (by decide) rfl
theorem q_139_22 : XX d 139 22 [v0, v1, v2, v3, v4, v5] (.ref a :: st) (mk S I L R G) Q ↔ S a = some (.inr 0) ∧ XX d 139 25 [v0, v1, v2, v3, v4, v5] (.int (I a 2) :: st) (mk S I L R G) Q := r_gf i_139_22 rfl (by decide) rfl
theorem q_139_25 : XX d 139 25 [v0, v1, v2, v3, v4, v5] (.int y :: .int x :: st) A Q ↔ if y < x then XX d 139 64 [v0, v1, v2, v3, v4, v5] st A Q else XX d 139 28 [v0, v1, v2, v3, v4, v5] st A Q := b_gt i_139_25 rfl rfl rfl
theorem q_139_28 : XX d 139 28 [v0, v1, v2, v3, v4, v5] st A Q ↔ XX d 139 31 [v0, v1, v2, v3, v4, v5] (.long (wl 31) :: st) A Q := r_ld2 i_139_28 rfl
theorem q_139_31 : XX d 139 31 [v0, v1, v2, some (.long lx), v4, v5] st A Q ↔ XX d 139 32 [v0, v1, v2, some (.long lx), v4, v5] (.long lx :: st) A Q := c_lcl i_139_31 rfl rfl
theorem q_139_32 : XX d 139 32 [v0, v1, v2, v3, v4, v5] (.long ly :: .long lx :: st) A Q ↔ XX d 139 33 [v0, v1, v2, v3, v4, v5] (.long (lx * ly) :: st) A Q := c_stk i_139_32 rfl
theorem q_139_33 : XX d 139 33 [v0, v1, some (.ref a), v3, v4, v5] st A Q ↔ XX d 139 34 [v0, v1, some (.ref a), v3, v4, v5] (.ref a :: st) A Q := c_lcl i_139_33 rfl rfl
theorem q_139_34 : XX d 139 34 [v0, v1, v2, v3, v4, some (.int x)] st A Q ↔ XX d 139 36 [v0, v1, v2, v3, v4, some (.int x)] (.int x :: st) A Q := c_lcl i_139_34 rfl rfl
theorem q_139_36 : XX (d + 1) 139 36 [v0, v1, v2, v3, v4, v5] [.int x1, .ref a0, .long l2] (mk S I L R G) Q ↔ S a0 = some (.inr 9) ∧ XC d 84 [.ref a0, .int x1] (mk S I L R G) (XK (d + 1) 139 36 [v0, v1, v2, v3, v4, v5] [.long l2] Q) := c_callV i_139_36 rfl rfl rfl rfl (Nat.le_of_ble_eq_true rfl) (Nat.le_of_ble_eq_true rfl) rfl
theorem q_139_39 : XX d 139 39 [v0, v1, v2, v3, v4, v5] (.int x :: st) A Q ↔ if x = w 0 then XX d 139 54 [v0, v1, v2, v3, v4, v5] st A Q else XX d 139 42 [v0, v1, v2, v3, v4, v5] st A Q := z_eq i_139_39 rfl rfl rfl
theorem q_139_42 : XX d 139 42 [v0, v1, some (.ref a), v3, v4, v5] st A Q ↔ XX d 139 43 [v0, v1, some (.ref a), v3, v4, v5] (.ref a :: st) A Q := c_lcl i_139_42 rfl rfl
theorem q_139_43 : XX d 139 43 [v0, v1, v2, v3, v4, v5] (.ref a :: st) (mk S I L R G) Q ↔ S a = some (.inr 9) ∧ XX d 139 46 [v0, v1, v2, v3, v4, v5] (.ref (a + 1) :: st) (mk S I L R G) Q := r_gf i_139_43 rfl (by decide) rfl
theorem q_139_46 : XX d 139 46 [v0, v1, v2, v3, v4, some (.int x)] st A Q ↔ XX d 139 48 [v0, v1, v2, v3, v4, some (.int x)] (.int x :: st) A Q := c_lcl i_139_46 rfl rfl
theorem q_139_48 : XX (d + 1) 139 48 [v0, v1, v2, v3, v4, v5] [.int x1, .ref a0, .long l2] (mk S I L R G) Q ↔ S a0 = some (.inr 4) ∧ XC d 39 [.ref a0, .int x1] (mk S I L R G) (XK (d + 1) 139 48 [v0, v1, v2, v3, v4, v5] [.long l2] Q) := c_callV i_139_48 rfl rfl rfl rfl (Nat.le_of_ble_eq_true rfl) (Nat.le_of_ble_eq_true rfl) rfl
theorem q_139_51 : XX d 139 51 [v0, v1, v2, v3, v4, v5] st A Q ↔ XX d 139 55 [v0, v1, v2, v3, v4, v5] st A Q := c_go i_139_51 rfl rfl
theorem q_139_54 : XX d 139 54 [v0, v1, v2, v3, v4, v5] st A Q ↔ XX d 139 55 [v0, v1, v2, v3, v4, v5] (.int (w 1) :: st) A Q := c_stk i_139_54 rfl
theorem q_139_55 : XX d 139 55 [v0, v1, v2, v3, v4, v5] (.int x :: st) A Q ↔ XX d 139 56 [v0, v1, v2, v3, v4, v5] (.long x.toInt64 :: st) A Q := c_stk i_139_55 rfl
theorem q_139_56 : XX d 139 56 [v0, v1, v2, v3, v4, v5] (.long ly :: .long lx :: st) A Q ↔ XX d 139 57 [v0, v1, v2, v3, v4, v5] (.long (lx + ly) :: st) A Q := c_stk i_139_56 rfl
theorem q_139_57 : XX d 139 57 [v0, v1, some (.ref b), v3, v4, v5] (.long lx :: st) A Q ↔ XX d 139 58 [v0, v1, some (.ref b), some (.long lx), none, v5] st A Q := c_lcl i_139_57 rfl rfl
theorem q_139_58 : XX d 139 58 [v0, v1, v2, v3, none, some (.int x)] st A Q ↔ XX d 139 61 [v0, v1, v2, v3, none, some (.int (x + w 1))] st A Q := c_lcl i_139_58 rfl rfl
theorem q_139_61 : XX d 139 61 [v0, v1, v2, v3, v4, v5] st A Q ↔ XX d 139 16 [v0, v1, v2, v3, v4, v5] st A Q := c_go i_139_61 rfl rfl
theorem q_139_64 : XX d 139 64 [v0, v1, v2, some (.long lx), v4, v5] st A Q ↔ XX d 139 65 [v0, v1, v2, some (.long lx), v4, v5] (.long lx :: st) A Q := c_lcl i_139_64 rfl rfl
theorem q_139_65 : XX d 139 65 [v0, v1, v2, v3, v4, v5] [.long lx] A Q ↔ Q (.inl (some (.long lx))) A := e_retL i_139_65 rfl
theorem q_139_e : XC d 139 [.ref a0, .int x1] A Q ↔ XX d 139 0 [some (.ref a0), some (.int x1), none, none, none, none] [] A Q := Iff.rfl
theorem i_140_0 : t_ins 140 0 = some (.iload_n 1) := by decide +kernel
theorem i_140_1 : t_ins 140 1 = some (.ifCond .ne 8) := by decide +kernel
theorem i_140_4 : t_ins 140 4 = some (.aload_n 0) := by decide +kernel
theorem i_140_5 : t_ins 140 5 = some (.getfield 76) := by decide +kernel
theorem i_140_8 : t_ins 140 8 = some (.ireturn) := by decide +kernel
theorem i_140_9 : t_ins 140 9 = some (.iload_n 1) := by decide +kernel
theorem i_140_10 : t_ins 140 10 = some (.iconst 1) := by decide +kernel
theorem i_140_11 : t_ins 140 11 = some (.if_icmp .ne 10) := by decide +kernel
theorem i_140_14 : t_ins 140 14 = some (.aload_n 0) := by decide +kernel
theorem i_140_15 : t_ins 140 15 = some (.getfield 79) := by decide +kernel
theorem i_140_18 : t_ins 140 18 = some (.goto 4) := by decide +kernel
theorem i_140_21 : t_ins 140 21 = some (.iconst (-1)) := by decide +kernel
theorem i_140_22 : t_ins 140 22 = some (.ireturn) := by decide +kernel
theorem q_140_0 : XX d 140 0 [v0, some (.int x)] st A Q ↔ XX d 140 1 [v0, some (.int x)] (.int x :: st) A Q := c_lcl i_140_0 rfl rfl
theorem q_140_1 : XX d 140 1 [v0, v1] (.int x :: st) A Q ↔ if x = w 0 then XX d 140 4 [v0, v1] st A Q else XX d 140 9 [v0, v1] st A Q := z_ne i_140_1 rfl rfl rfl
theorem q_140_4 : XX d 140 4 [some (.ref a), v1] st A Q ↔ XX d 140 5 [some (.ref a), v1] (.ref a :: st) A Q := c_lcl i_140_4 rfl rfl
theorem q_140_5 : XX d 140 5 [v0, v1] (.ref a :: st) (mk S I L R G) Q ↔ S a = some (.inr 11) ∧ XX d 140 8 [v0, v1] (.int (I a 11) :: st) (mk S I L R G) Q := r_gf i_140_5 rfl (by decide) rfl
theorem q_140_8 : XX d 140 8 [v0, v1] [.int x] A Q ↔ Q (.inl (some (.int x))) A := e_retI i_140_8 rfl
theorem q_140_9 : XX d 140 9 [v0, some (.int x)] st A Q ↔ XX d 140 10 [v0, some (.int x)] (.int x :: st) A Q := c_lcl i_140_9 rfl rfl
theorem q_140_10 : XX d 140 10 [v0, v1] st A Q ↔ XX d 140 11 [v0, v1] (.int (w 1) :: st) A Q := c_stk i_140_10 rfl
theorem q_140_11 : XX d 140 11 [v0, v1] (.int y :: .int x :: st) A Q ↔ if x = y then XX d 140 14 [v0, v1] st A Q else XX d 140 21 [v0, v1] st A Q := b_ne i_140_11 rfl rfl rfl
theorem q_140_14 : XX d 140 14 [some (.ref a), v1] st A Q ↔ XX d 140 15 [some (.ref a), v1] (.ref a :: st) A Q := c_lcl i_140_14 rfl rfl
theorem q_140_15 : XX d 140 15 [v0, v1] (.ref a :: st) (mk S I L R G) Q ↔ S a = some (.inr 11) ∧ XX d 140 18 [v0, v1] (.int (I a 12) :: st) (mk S I L R G) Q := r_gf i_140_15 rfl (by decide) rfl
theorem q_140_18 : XX d 140 18 [v0, v1] st A Q ↔ XX d 140 22 [v0, v1] st A Q := c_go i_140_18 rfl rfl
theorem q_140_21 : XX d 140 21 [v0, v1] st A Q ↔ XX d 140 22 [v0, v1] (.int (w (-1)) :: st) A Q := c_stk i_140_21 rfl
theorem q_140_22 : XX d 140 22 [v0, v1] [.int x] A Q ↔ Q (.inl (some (.int x))) A := e_retI i_140_22 rfl
theorem q_140_e : XC d 140 [.ref a0, .int x1] A Q ↔ XX d 140 0 [some (.ref a0), some (.int x1)] [] A Q := Iff.rfl
theorem i_141_0 : t_ins 141 0 = some (.iload_n 1) := by decide +kernel
theorem i_141_1 : t_ins 141 1 = some (.ifCond .ne 10) := by decide +kernel
theorem i_141_4 : t_ins 141 4 = some (.aload_n 0) := by decide +kernel
theorem i_141_5 : t_ins 141 5 = some (.getfield 40) := by decide +kernel
theorem i_141_8 : t_ins 141 8 = some (.goto 7) := by decide +kernel
theorem i_141_11 : t_ins 141 11 = some (.aload_n 0) := by decide +kernel
theorem i_141_12 : t_ins 141 12 = some (.getfield 44) := by decide +kernel
theorem i_141_15 : t_ins 141 15 = some (.areturn) := by decide +kernel
theorem q_141_0 : XX d 141 0 [v0, some (.int x)] st A Q ↔ XX d 141 1 [v0, some (.int x)] (.int x :: st) A Q := c_lcl i_141_0 rfl rfl
theorem q_141_1 : XX d 141 1 [v0, v1] (.int x :: st) A Q ↔ if x = w 0 then XX d 141 4 [v0, v1] st A Q else XX d 141 11 [v0, v1] st A Q := z_ne i_141_1 rfl rfl rfl
theorem q_141_4 : XX d 141 4 [some (.ref a), v1] st A Q ↔ XX d 141 5 [some (.ref a), v1] (.ref a :: st) A Q := c_lcl i_141_4 rfl rfl
theorem q_141_5 : XX d 141 5 [v0, v1] (.ref a :: st) (mk S I L R G) Q ↔ S a = some (.inr 11) ∧ XX d 141 8 [v0, v1] (.ref (a + 51) :: st) (mk S I L R G) Q := r_gf i_141_5 rfl (by decide) rfl
theorem q_141_8 : XX d 141 8 [v0, v1] st A Q ↔ XX d 141 15 [v0, v1] st A Q := c_go i_141_8 rfl rfl
theorem q_141_11 : XX d 141 11 [some (.ref a), v1] st A Q ↔ XX d 141 12 [some (.ref a), v1] (.ref a :: st) A Q := c_lcl i_141_11 rfl rfl
theorem q_141_12 : XX d 141 12 [v0, v1] (.ref a :: st) (mk S I L R G) Q ↔ S a = some (.inr 11) ∧ XX d 141 15 [v0, v1] (.ref (a + 71) :: st) (mk S I L R G) Q := r_gf i_141_12 rfl (by decide) rfl
theorem q_141_15 : XX d 141 15 [v0, v1] [.ref a] A Q ↔ Q (.inl (some (.ref a))) A := e_retA i_141_15 rfl
theorem q_141_e : XC d 141 [.ref a0, .int x1] A Q ↔ XX d 141 0 [some (.ref a0), some (.int x1)] [] A Q := Iff.rfl
theorem i_142_0 : t_ins 142 0 = some (.iload_n 1) := by decide +kernel
theorem i_142_1 : t_ins 142 1 = some (.ifCond .ne 13) := by decide +kernel
theorem i_142_4 : t_ins 142 4 = some (.aload_n 0) := by decide +kernel
theorem i_142_5 : t_ins 142 5 = some (.getfield 40) := by decide +kernel
theorem i_142_8 : t_ins 142 8 = some (.getfield 170) := by decide +kernel
theorem i_142_11 : t_ins 142 11 = some (.goto 10) := by decide +kernel
theorem i_142_14 : t_ins 142 14 = some (.aload_n 0) := by decide +kernel
theorem i_142_15 : t_ins 142 15 = some (.getfield 44) := by decide +kernel
theorem i_142_18 : t_ins 142 18 = some (.getfield 170) := by decide +kernel
theorem i_142_21 : t_ins 142 21 = some (.areturn) := by decide +kernel
theorem q_142_0 : XX d 142 0 [v0, some (.int x)] st A Q ↔ XX d 142 1 [v0, some (.int x)] (.int x :: st) A Q := c_lcl i_142_0 rfl rfl
theorem q_142_1 : XX d 142 1 [v0, v1] (.int x :: st) A Q ↔ if x = w 0 then XX d 142 4 [v0, v1] st A Q else XX d 142 14 [v0, v1] st A Q := z_ne i_142_1 rfl rfl rfl
theorem q_142_4 : XX d 142 4 [some (.ref a), v1] st A Q ↔ XX d 142 5 [some (.ref a), v1] (.ref a :: st) A Q := c_lcl i_142_4 rfl rfl
theorem q_142_5 : XX d 142 5 [v0, v1] (.ref a :: st) (mk S I L R G) Q ↔ S a = some (.inr 11) ∧ XX d 142 8 [v0, v1] (.ref (a + 51) :: st) (mk S I L R G) Q := r_gf i_142_5 rfl (by decide) rfl
theorem q_142_8 : XX d 142 8 [v0, v1] (.ref a :: st) (mk S I L R G) Q ↔ S a = some (.inr 5) ∧ XX d 142 11 [v0, v1] (.ref (a + 1) :: st) (mk S I L R G) Q := r_gf i_142_8 rfl (by decide) rfl
theorem q_142_11 : XX d 142 11 [v0, v1] st A Q ↔ XX d 142 21 [v0, v1] st A Q := c_go i_142_11 rfl rfl
theorem q_142_14 : XX d 142 14 [some (.ref a), v1] st A Q ↔ XX d 142 15 [some (.ref a), v1] (.ref a :: st) A Q := c_lcl i_142_14 rfl rfl
theorem q_142_15 : XX d 142 15 [v0, v1] (.ref a :: st) (mk S I L R G) Q ↔ S a = some (.inr 11) ∧ XX d 142 18 [v0, v1] (.ref (a + 71) :: st) (mk S I L R G) Q := r_gf i_142_15 rfl (by decide) rfl
theorem q_142_18 : XX d 142 18 [v0, v1] (.ref a :: st) (mk S I L R G) Q ↔ S a = some (.inr 5) ∧ XX d 142 21 [v0, v1] (.ref (a + 1) :: st) (mk S I L R G) Q := r_gf i_142_18 rfl (by decide) rfl
theorem q_142_21 : XX d 142 21 [v0, v1] [.ref a] A Q ↔ Q (.inl (some (.ref a))) A := e_retA i_142_21 rfl
theorem q_142_e : XC d 142 [.ref a0, .int x1] A Q ↔ XX d 142 0 [some (.ref a0), some (.int x1)] [] A Q := Iff.rfl
theorem i_143_0 : t_ins 143 0 = some (.aload_n 0) := by decide +kernel
theorem i_143_1 : t_ins 143 1 = some (.iload_n 1) := by decide +kernel
theorem i_143_2 : t_ins 143 2 = some (.iconst 2) := by decide +kernel
theorem i_143_3 : t_ins 143 3 = some (.invokevirtual 197) := by decide +kernel
theorem i_143_6 : t_ins 143 6 = some (.return_) := by decide +kernel
theorem q_143_0 : XX d 143 0 [some (.ref a), v1] st A Q ↔ XX d 143 1 [some (.ref a), v1] (.ref a :: st) A Q := c_lcl i_143_0 rfl rfl
theorem q_143_1 : XX d 143 1 [v0, some (.int x)] st A Q ↔ XX d 143 2 [v0, some (.int x)] (.int x :: st) A Q := c_lcl i_143_1 rfl rfl
theorem q_143_2 : XX d 143 2 [v0, v1] st A Q ↔ XX d 143 3 [v0, v1] (.int (w 2) :: st) A Q := c_stk i_143_2 rfl
theorem q_143_3 : XX (d + 1) 143 3 [v0, v1] [.int x2, .int x1, .ref a0] (mk S I L R G) Q ↔ S a0 = some (.inr 11) ∧ XC d 145 [.ref a0, .int x1, .int x2] (mk S I L R G) (XK (d + 1) 143 3 [v0, v1] [] Q) := c_callV i_143_3 rfl rfl rfl rfl (Nat.le_of_ble_eq_true rfl) (Nat.le_of_ble_eq_true rfl) rfl
theorem q_143_6 : XX d 143 6 [v0, v1] [] A Q ↔ Q (.inl none) A := e_retN i_143_6 rfl
theorem q_143_e : XC d 143 [.ref a0, .int x1] A Q ↔ XX d 143 0 [some (.ref a0), some (.int x1)] [] A Q := Iff.rfl
theorem i_144_0 : t_ins 144 0 = some (.aload_n 0) := by decide +kernel
theorem i_144_1 : t_ins 144 1 = some (.iload_n 1) := by decide +kernel
theorem i_144_2 : t_ins 144 2 = some (.invokevirtual 206) := by decide +kernel
theorem i_144_5 : t_ins 144 5 = some (.aload_n 0) := by decide +kernel
theorem i_144_6 : t_ins 144 6 = some (.getfield 19) := by decide +kernel
theorem i_144_9 : t_ins 144 9 = some (.iload_n 1) := by decide +kernel
theorem i_144_10 : t_ins 144 10 = some (.iload_n 2) := by decide +kernel
theorem i_144_11 : t_ins 144 11 = some (.invokevirtual 339) := by decide +kernel
theorem i_144_14 : t_ins 144 14 = some (.astore_n 3) := by decide +kernel
theorem i_144_15 : t_ins 144 15 = some (.aload_n 3) := by decide +kernel
theorem i_144_16 : t_ins 144 16 = some (.ifnonnull 24) := by decide +kernel
theorem i_144_19 : t_ins 144 19 = some (.aload_n 0) := by decide +kernel
theorem i_144_20 : t_ins 144 20 = some (.dup) := by decide +kernel
theorem i_144_21 : t_ins 144 21 = some (.getfield 76) := by decide +kernel
theorem i_144_24 : t_ins 144 24 = some (.iconst 1) := by decide +kernel
theorem i_144_25 : t_ins 144 25 = some (.iadd) := by decide +kernel
theorem i_144_26 : t_ins 144 26 = some (.putfield 76) := by decide +kernel
theorem i_144_29 : t_ins 144 29 = some (.new 342) := by decide +kernel
theorem i_144_32 : t_ins 144 32 = some (.dup) := by decide +kernel
theorem i_144_33 : t_ins 144 33 = some (.ldc_w 344) := by decide +kernel
theorem i_144_36 : t_ins 144 36 = some (.invokespecial 346) := by decide +kernel
theorem i_144_39 : t_ins 144 39 = some (.athrow) := by decide +kernel
theorem i_144_40 : t_ins 144 40 = some (.aload_n 3) := by decide +kernel
theorem i_144_41 : t_ins 144 41 = some (.areturn) := by decide +kernel
theorem q_144_0 : XX d 144 0 [some (.ref a), v1, v2, v3] st A Q ↔ XX d 144 1 [some (.ref a), v1, v2, v3] (.ref a :: st) A Q := c_lcl i_144_0 rfl rfl
theorem q_144_1 : XX d 144 1 [v0, some (.int x), v2, v3] st A Q ↔ XX d 144 2 [v0, some (.int x), v2, v3] (.int x :: st) A Q := c_lcl i_144_1 rfl rfl
theorem q_144_2 : XX (d + 1) 144 2 [v0, v1, v2, v3] [.int x1, .ref a0] (mk S I L R G) Q ↔ S a0 = some (.inr 11) ∧ XC d 143 [.ref a0, .int x1] (mk S I L R G) (XK (d + 1) 144 2 [v0, v1, v2, v3] [] Q) := c_callV i_144_2 rfl rfl rfl rfl (Nat.le_of_ble_eq_true rfl) (Nat.le_of_ble_eq_true rfl) rfl
theorem q_144_5 : XX d 144 5 [some (.ref a), v1, v2, v3] st A Q ↔ XX d 144 6 [some (.ref a), v1, v2, v3] (.ref a :: st) A Q := c_lcl i_144_5 rfl rfl
theorem q_144_6 : XX d 144 6 [v0, v1, v2, v3] (.ref a :: st) (mk S I L R G) Q ↔ S a = some (.inr 11) ∧ XX d 144 9 [v0, v1, v2, v3] (.ref (a + 3) :: st) (mk S I L R G) Q := r_gf i_144_6 rfl (by decide) rfl
theorem q_144_9 : XX d 144 9 [v0, some (.int x), v2, v3] st A Q ↔ XX d 144 10 [v0, some (.int x), v2, v3] (.int x :: st) A Q := c_lcl i_144_9 rfl rfl
theorem q_144_10 : XX d 144 10 [v0, v1, some (.int x), v3] st A Q ↔ XX d 144 11 [v0, v1, some (.int x), v3] (.int x :: st) A Q := c_lcl i_144_10 rfl rfl
theorem q_144_11 : XX (d + 1) 144 11 [v0, v1, v2, v3] [.int x2, .int x1, .ref a0] (mk S I L R G) Q ↔ S a0 = some (.inr 0) ∧ XC d 2 [.ref a0, .int x1, .int x2] (mk S I L R G) (XK (d + 1) 144 11 [v0, v1, v2, v3] [] Q) := c_callV i_144_11 rfl rfl rfl rfl (Nat.le_of_ble_eq_true rfl) (Nat.le_of_ble_eq_true rfl) rfl
theorem q_144_14 : XX d 144 14 [v0, v1, some (.int z), v3] (.ref a :: st) A Q ↔ XX d 144 15 [v0, v1, some (.int z), some (.ref a)] st A Q := c_lcl i_144_14 rfl rfl
theorem q_144_14o : XX d 144 14 [v0, v1, some (.int z), v3] (va_rf o :: st) A Q ↔ XX d 144 15 [v0, v1, some (.int z), some (va_rf o)] st A Q := by cases o <;> exact c_lcl i_144_14 rfl rfl
theorem q_144_15 : XX d 144 15 [v0, v1, v2, some (.ref a)] st A Q ↔ XX d 144 16 [v0, v1, v2, some (.ref a)] (.ref a :: st) A Q := c_lcl i_144_15 rfl rfl
theorem q_144_15o : XX d 144 15 [v0, v1, v2, some (va_rf o)] st A Q ↔ XX d 144 16 [v0, v1, v2, some (va_rf o)] (va_rf o :: st) A Q := by cases o <;> exact c_lcl i_144_15 rfl rfl
theorem q_144_16o : XX d 144 16 [v0, v1, v2, v3] (va_rf o :: st) A Q ↔ if o = none then XX d 144 19 [v0, v1, v2, v3] st A Q else XX d 144 40 [v0, v1, v2, v3] st A Q := b_nonnull i_144_16 rfl rfl rfl
theorem q_144_16 : XX d 144 16 [v0, v1, v2, v3] (.ref a :: st) A Q ↔ XX d 144 40 [v0, v1, v2, v3] st A Q := c_br i_144_16 rfl rfl rfl
theorem q_144_19 : XX d 144 19 [some (.ref a), v1, v2, v3] st A Q ↔ XX d 144 20 [some (.ref a), v1, v2, v3] (.ref a :: st) A Q := c_lcl i_144_19 rfl rfl
theorem q_144_20 : XX d 144 20 [v0, v1, v2, v3] (.ref a1 :: st) A Q ↔ XX d 144 21 [v0, v1, v2, v3] (.ref a1 :: .ref a1 :: st) A Q := c_stk i_144_20 rfl
theorem q_144_21 : XX d 144 21 [v0, v1, v2, v3] (.ref a :: st) (mk S I L R G) Q ↔ S a = some (.inr 11) ∧ XX d 144 24 [v0, v1, v2, v3] (.int (I a 11) :: st) (mk S I L R G) Q := r_gf i_144_21 rfl (by decide) rfl
theorem q_144_24 : XX d 144 24 [v0, v1, v2, v3] st A Q ↔ XX d 144 25 [v0, v1, v2, v3] (.int (w 1) :: st) A Q := c_stk i_144_24 rfl
theorem q_144_25 : XX d 144 25 [v0, v1, v2, v3] (.int y :: .int x :: st) A Q ↔ XX d 144 26 [v0, v1, v2, v3] (.int (x + y) :: st) A Q := c_stk i_144_25 rfl
theorem q_144_26 : XX d 144 26 [v0, v1, v2, v3] (.int x :: .ref a :: st) (mk S I L R G) Q ↔ S a = some (.inr 11) ∧ XX d 144 29 [v0, v1, v2, v3] st (mk S (wr I a (up (I a) 11 x)) L R G) Q := r_pf i_144_26 rfl (by decide) rfl rfl rfl
theorem q_144_29 : XX d 144 29 [v0, v1, v2, v3] [] (mk S I L R G) Q ↔ Q (.inr 0) (mk S I L R (G.1 + 1, G.2.1 + 6, G.2.2)) := e_thr i_144_29 rfl (by decide) rfl rfl
theorem q_144_40 : XX d 144 40 [v0, v1, v2, some (.ref a)] st A Q ↔ XX d 144 41 [v0, v1, v2, some (.ref a)] (.ref a :: st) A Q := c_lcl i_144_40 rfl rfl
theorem q_144_40o : XX d 144 40 [v0, v1, v2, some (va_rf o)] st A Q ↔ XX d 144 41 [v0, v1, v2, some (va_rf o)] (va_rf o :: st) A Q := by cases o <;> exact c_lcl i_144_40 rfl rfl
theorem q_144_41 : XX d 144 41 [v0, v1, v2, v3] [.ref a] A Q ↔ Q (.inl (some (.ref a))) A := e_retA i_144_41 rfl
theorem q_144_41o : XX d 144 41 [v0, v1, v2, v3] [va_rf o] A Q ↔ Q (.inl (some (va_rf o))) A := e_retO i_144_41 rfl
theorem q_144_e : XC d 144 [.ref a0, .int x1, .int x2] A Q ↔ XX d 144 0 [some (.ref a0), some (.int x1), some (.int x2), none] [] A Q := Iff.rfl
theorem i_145_0 : t_ins 145 0 = some (.iload_n 1) := by decide +kernel
theorem i_145_1 : t_ins 145 1 = some (.ifCond .lt 8) := by decide +kernel
theorem i_145_4 : t_ins 145 4 = some (.iload_n 1) := by decide +kernel
theorem i_145_5 : t_ins 145 5 = some (.iload_n 2) := by decide +kernel
theorem i_145_6 : t_ins 145 6 = some (.if_icmp .lt 24) := by decide +kernel
theorem i_145_9 : t_ins 145 9 = some (.aload_n 0) := by decide +kernel
theorem i_145_10 : t_ins 145 10 = some (.dup) := by decide +kernel
theorem i_145_11 : t_ins 145 11 = some (.getfield 76) := by decide +kernel
theorem i_145_14 : t_ins 145 14 = some (.iconst 1) := by decide +kernel
theorem i_145_15 : t_ins 145 15 = some (.iadd) := by decide +kernel
theorem i_145_16 : t_ins 145 16 = some (.putfield 76) := by decide +kernel
theorem i_145_19 : t_ins 145 19 = some (.new 342) := by decide +kernel
theorem i_145_22 : t_ins 145 22 = some (.dup) := by decide +kernel
theorem i_145_23 : t_ins 145 23 = some (.ldc_w 349) := by decide +kernel
theorem i_145_26 : t_ins 145 26 = some (.invokespecial 346) := by decide +kernel
theorem i_145_29 : t_ins 145 29 = some (.athrow) := by decide +kernel
theorem i_145_30 : t_ins 145 30 = some (.return_) := by decide +kernel
theorem q_145_0 : XX d 145 0 [v0, some (.int x), v2] st A Q ↔ XX d 145 1 [v0, some (.int x), v2] (.int x :: st) A Q := c_lcl i_145_0 rfl rfl
theorem q_145_1 : XX d 145 1 [v0, v1, v2] (.int x :: st) A Q ↔ if x < w 0 then XX d 145 9 [v0, v1, v2] st A Q else XX d 145 4 [v0, v1, v2] st A Q := z_lt i_145_1 rfl rfl rfl
theorem q_145_4 : XX d 145 4 [v0, some (.int x), v2] st A Q ↔ XX d 145 5 [v0, some (.int x), v2] (.int x :: st) A Q := c_lcl i_145_4 rfl rfl
theorem q_145_5 : XX d 145 5 [v0, v1, some (.int x)] st A Q ↔ XX d 145 6 [v0, v1, some (.int x)] (.int x :: st) A Q := c_lcl i_145_5 rfl rfl
theorem q_145_6 : XX d 145 6 [v0, v1, v2] (.int y :: .int x :: st) A Q ↔ if x < y then XX d 145 30 [v0, v1, v2] st A Q else XX d 145 9 [v0, v1, v2] st A Q := b_lt i_145_6 rfl rfl rfl
theorem q_145_9 : XX d 145 9 [some (.ref a), v1, v2] st A Q ↔ XX d 145 10 [some (.ref a), v1, v2] (.ref a :: st) A Q := c_lcl i_145_9 rfl rfl
theorem q_145_10 : XX d 145 10 [v0, v1, v2] (.ref a1 :: st) A Q ↔ XX d 145 11 [v0, v1, v2] (.ref a1 :: .ref a1 :: st) A Q := c_stk i_145_10 rfl
theorem q_145_11 : XX d 145 11 [v0, v1, v2] (.ref a :: st) (mk S I L R G) Q ↔ S a = some (.inr 11) ∧ XX d 145 14 [v0, v1, v2] (.int (I a 11) :: st) (mk S I L R G) Q := r_gf i_145_11 rfl (by decide) rfl
theorem q_145_14 : XX d 145 14 [v0, v1, v2] st A Q ↔ XX d 145 15 [v0, v1, v2] (.int (w 1) :: st) A Q := c_stk i_145_14 rfl
theorem q_145_15 : XX d 145 15 [v0, v1, v2] (.int y :: .int x :: st) A Q ↔ XX d 145 16 [v0, v1, v2] (.int (x + y) :: st) A Q := c_stk i_145_15 rfl
theorem q_145_16 : XX d 145 16 [v0, v1, v2] (.int x :: .ref a :: st) (mk S I L R G) Q ↔ S a = some (.inr 11) ∧ XX d 145 19 [v0, v1, v2] st (mk S (wr I a (up (I a) 11 x)) L R G) Q := r_pf i_145_16 rfl (by decide) rfl rfl rfl
theorem q_145_19 : XX d 145 19 [v0, v1, v2] [] (mk S I L R G) Q ↔ Q (.inr 0) (mk S I L R (G.1 + 1, G.2.1 + 6, G.2.2)) := e_thr i_145_19 rfl (by decide) rfl rfl
theorem q_145_30 : XX d 145 30 [v0, v1, v2] [] A Q ↔ Q (.inl none) A := e_retN i_145_30 rfl
theorem q_145_e : XC d 145 [.ref a0, .int x1, .int x2] A Q ↔ XX d 145 0 [some (.ref a0), some (.int x1), some (.int x2)] [] A Q := Iff.rfl
theorem i_146_0 : t_ins 146 0 = some (.iload_n 1) := by decide +kernel
theorem i_146_1 : t_ins 146 1 = some (.iload_n 2) := by decide +kernel
theorem i_146_2 : t_ins 146 2 = some (.if_icmp .lt 8) := by decide +kernel
theorem i_146_5 : t_ins 146 5 = some (.iload_n 1) := by decide +kernel
theorem i_146_6 : t_ins 146 6 = some (.iload_n 3) := by decide +kernel
theorem i_146_7 : t_ins 146 7 = some (.if_icmp .le 24) := by decide +kernel
theorem i_146_10 : t_ins 146 10 = some (.aload_n 0) := by decide +kernel
theorem i_146_11 : t_ins 146 11 = some (.dup) := by decide +kernel
theorem i_146_12 : t_ins 146 12 = some (.getfield 79) := by decide +kernel
theorem i_146_15 : t_ins 146 15 = some (.iconst 1) := by decide +kernel
theorem i_146_16 : t_ins 146 16 = some (.iadd) := by decide +kernel
theorem i_146_17 : t_ins 146 17 = some (.putfield 79) := by decide +kernel
theorem i_146_20 : t_ins 146 20 = some (.new 351) := by decide +kernel
theorem i_146_23 : t_ins 146 23 = some (.dup) := by decide +kernel
theorem i_146_24 : t_ins 146 24 = some (.ldc_w 353) := by decide +kernel
theorem i_146_27 : t_ins 146 27 = some (.invokespecial 355) := by decide +kernel
theorem i_146_30 : t_ins 146 30 = some (.athrow) := by decide +kernel
theorem i_146_31 : t_ins 146 31 = some (.return_) := by decide +kernel
theorem q_146_0 : XX d 146 0 [v0, some (.int x), v2, v3] st A Q ↔ XX d 146 1 [v0, some (.int x), v2, v3] (.int x :: st) A Q := c_lcl i_146_0 rfl rfl
theorem q_146_1 : XX d 146 1 [v0, v1, some (.int x), v3] st A Q ↔ XX d 146 2 [v0, v1, some (.int x), v3] (.int x :: st) A Q := c_lcl i_146_1 rfl rfl
theorem q_146_2 : XX d 146 2 [v0, v1, v2, v3] (.int y :: .int x :: st) A Q ↔ if x < y then XX d 146 10 [v0, v1, v2, v3] st A Q else XX d 146 5 [v0, v1, v2, v3] st A Q := b_lt i_146_2 rfl rfl rfl
theorem q_146_5 : XX d 146 5 [v0, some (.int x), v2, v3] st A Q ↔ XX d 146 6 [v0, some (.int x), v2, v3] (.int x :: st) A Q := c_lcl i_146_5 rfl rfl
theorem q_146_6 : XX d 146 6 [v0, v1, v2, some (.int x)] st A Q ↔ XX d 146 7 [v0, v1, v2, some (.int x)] (.int x :: st) A Q := c_lcl i_146_6 rfl rfl
theorem q_146_7 : XX d 146 7 [v0, v1, v2, v3] (.int y :: .int x :: st) A Q ↔ if y < x then XX d 146 10 [v0, v1, v2, v3] st A Q else XX d 146 31 [v0, v1, v2, v3] st A Q := b_le i_146_7 rfl rfl rfl
theorem q_146_10 : XX d 146 10 [some (.ref a), v1, v2, v3] st A Q ↔ XX d 146 11 [some (.ref a), v1, v2, v3] (.ref a :: st) A Q := c_lcl i_146_10 rfl rfl
theorem q_146_11 : XX d 146 11 [v0, v1, v2, v3] (.ref a1 :: st) A Q ↔ XX d 146 12 [v0, v1, v2, v3] (.ref a1 :: .ref a1 :: st) A Q := c_stk i_146_11 rfl
theorem q_146_12 : XX d 146 12 [v0, v1, v2, v3] (.ref a :: st) (mk S I L R G) Q ↔ S a = some (.inr 11) ∧ XX d 146 15 [v0, v1, v2, v3] (.int (I a 12) :: st) (mk S I L R G) Q := r_gf i_146_12 rfl (by decide) rfl
theorem q_146_15 : XX d 146 15 [v0, v1, v2, v3] st A Q ↔ XX d 146 16 [v0, v1, v2, v3] (.int (w 1) :: st) A Q := c_stk i_146_15 rfl
theorem q_146_16 : XX d 146 16 [v0, v1, v2, v3] (.int y :: .int x :: st) A Q ↔ XX d 146 17 [v0, v1, v2, v3] (.int (x + y) :: st) A Q := c_stk i_146_16 rfl
theorem q_146_17 : XX d 146 17 [v0, v1, v2, v3] (.int x :: .ref a :: st) (mk S I L R G) Q ↔ S a = some (.inr 11) ∧ XX d 146 20 [v0, v1, v2, v3] st (mk S (wr I a (up (I a) 12 x)) L R G) Q := r_pf i_146_17 rfl (by decide) rfl rfl rfl
theorem q_146_20 : XX d 146 20 [v0, v1, v2, v3] [] (mk S I L R G) Q ↔ Q (.inr 1) (mk S I L R (G.1 + 1, G.2.1 + 6, G.2.2)) := e_thr i_146_20 rfl (by decide) rfl rfl
theorem q_146_31 : XX d 146 31 [v0, v1, v2, v3] [] A Q ↔ Q (.inl none) A := e_retN i_146_31 rfl
theorem q_146_e : XC d 146 [.ref a0, .int x1, .int x2, .int x3] A Q ↔ XX d 146 0 [some (.ref a0), some (.int x1), some (.int x2), some (.int x3)] [] A Q := Iff.rfl
theorem i_147_0 : t_ins 147 0 = some (.aload_n 0) := by decide +kernel
theorem i_147_1 : t_ins 147 1 = some (.iload_n 1) := by decide +kernel
theorem i_147_2 : t_ins 147 2 = some (.iconst 1) := by decide +kernel
theorem i_147_3 : t_ins 147 3 = some (.aload_n 0) := by decide +kernel
theorem i_147_4 : t_ins 147 4 = some (.getfield 12) := by decide +kernel
theorem i_147_7 : t_ins 147 7 = some (.getfield 82) := by decide +kernel
theorem i_147_10 : t_ins 147 10 = some (.invokevirtual 89) := by decide +kernel
theorem i_147_13 : t_ins 147 13 = some (.aload_n 0) := by decide +kernel
theorem i_147_14 : t_ins 147 14 = some (.getfield 64) := by decide +kernel
theorem i_147_17 : t_ins 147 17 = some (.aload_n 0) := by decide +kernel
theorem i_147_18 : t_ins 147 18 = some (.getfield 12) := by decide +kernel
theorem i_147_21 : t_ins 147 21 = some (.getfield 97) := by decide +kernel
theorem i_147_24 : t_ins 147 24 = some (.iload_n 1) := by decide +kernel
theorem i_147_25 : t_ins 147 25 = some (.invokevirtual 356) := by decide +kernel
theorem i_147_28 : t_ins 147 28 = some (.ifCond .ne 24) := by decide +kernel
theorem i_147_31 : t_ins 147 31 = some (.aload_n 0) := by decide +kernel
theorem i_147_32 : t_ins 147 32 = some (.dup) := by decide +kernel
theorem i_147_33 : t_ins 147 33 = some (.getfield 79) := by decide +kernel
theorem i_147_36 : t_ins 147 36 = some (.iconst 1) := by decide +kernel
theorem i_147_37 : t_ins 147 37 = some (.iadd) := by decide +kernel
theorem i_147_38 : t_ins 147 38 = some (.putfield 79) := by decide +kernel
theorem i_147_41 : t_ins 147 41 = some (.new 351) := by decide +kernel
theorem i_147_44 : t_ins 147 44 = some (.dup) := by decide +kernel
theorem i_147_45 : t_ins 147 45 = some (.ldc_w 360) := by decide +kernel
theorem i_147_48 : t_ins 147 48 = some (.invokespecial 355) := by decide +kernel
theorem i_147_51 : t_ins 147 51 = some (.athrow) := by decide +kernel
theorem i_147_52 : t_ins 147 52 = some (.return_) := by decide +kernel
theorem q_147_0 : XX d 147 0 [some (.ref a), v1] st A Q ↔ XX d 147 1 [some (.ref a), v1] (.ref a :: st) A Q := c_lcl i_147_0 rfl rfl
theorem q_147_1 : XX d 147 1 [v0, some (.int x)] st A Q ↔ XX d 147 2 [v0, some (.int x)] (.int x :: st) A Q := c_lcl i_147_1 rfl rfl
theorem q_147_2 : XX d 147 2 [v0, v1] st A Q ↔ XX d 147 3 [v0, v1] (.int (w 1) :: st) A Q := c_stk i_147_2 rfl
theorem q_147_3 : XX d 147 3 [some (.ref a), v1] st A Q ↔ XX d 147 4 [some (.ref a), v1] (.ref a :: st) A Q := c_lcl i_147_3 rfl rfl
theorem q_147_4 : XX d 147 4 [v0, v1] (.ref a :: st) (mk S I L R G) Q ↔ S a = some (.inr 11) ∧ XX d 147 7 [v0, v1] (.ref (a + 1) :: st) (mk S I L R G) Q := r_gf i_147_4 rfl (by decide) rfl
theorem q_147_7 : XX d 147 7 [v0, v1] (.ref a :: st) (mk S I L R G) Q ↔ S a = some (.inr 7) ∧ XX d 147 10 [v0, v1] (.int (I a 1) :: st) (mk S I L R G) Q := r_gf i_147_7 rfl (by decide) rfl
theorem q_147_10 : XX (d + 1) 147 10 [v0, v1] [.int x3, .int x2, .int x1, .ref a0] (mk S I L R G) Q ↔ S a0 = some (.inr 11) ∧ XC d 146 [.ref a0, .int x1, .int x2, .int x3] (mk S I L R G) (XK (d + 1) 147 10 [v0, v1] [] Q) := c_callV i_147_10 rfl rfl rfl rfl (Nat.le_of_ble_eq_true rfl) (Nat.le_of_ble_eq_true rfl) rfl
theorem q_147_13 : XX d 147 13 [some (.ref a), v1] st A Q ↔ XX d 147 14 [some (.ref a), v1] (.ref a :: st) A Q := c_lcl i_147_13 rfl rfl
theorem q_147_14 : XX d 147 14 [v0, v1] (.ref a :: st) (mk S I L R G) Q ↔ S a = some (.inr 11) ∧ XX d 147 17 [v0, v1] (.ref (a + 112) :: st) (mk S I L R G) Q := r_gf i_147_14 rfl (by decide) rfl
theorem q_147_17 : XX d 147 17 [some (.ref a), v1] st A Q ↔ XX d 147 18 [some (.ref a), v1] (.ref a :: st) A Q := c_lcl i_147_17 rfl rfl
theorem q_147_18 : XX d 147 18 [v0, v1] (.ref a :: st) (mk S I L R G) Q ↔ S a = some (.inr 11) ∧ XX d 147 21 [v0, v1] (.ref (a + 1) :: st) (mk S I L R G) Q := r_gf i_147_18 rfl (by decide) rfl
theorem q_147_21 : XX d 147 21 [v0, v1] (.ref a :: st) (mk S I L R G) Q ↔ S a = some (.inr 7) ∧ XX d 147 24 [v0, v1] (.ref (a + 1) :: st) (mk S I L R G) Q := r_gf i_147_21 rfl (by decide) rfl
theorem q_147_24 : XX d 147 24 [v0, some (.int x)] st A Q ↔ XX d 147 25 [v0, some (.int x)] (.int x :: st) A Q := c_lcl i_147_24 rfl rfl
theorem q_147_25 : XX (d + 1) 147 25 [v0, v1] [.int x2, .ref a1, .ref a0] (mk S I L R G) Q ↔ S a0 = some (.inr 2) ∧ XC d 12 [.ref a0, .ref a1, .int x2] (mk S I L R G) (XK (d + 1) 147 25 [v0, v1] [] Q) := c_callV i_147_25 rfl rfl rfl rfl (Nat.le_of_ble_eq_true rfl) (Nat.le_of_ble_eq_true rfl) rfl
theorem q_147_28 : XX d 147 28 [v0, v1] (.int x :: st) A Q ↔ if x = w 0 then XX d 147 31 [v0, v1] st A Q else XX d 147 52 [v0, v1] st A Q := z_ne i_147_28 rfl rfl rfl
theorem q_147_31 : XX d 147 31 [some (.ref a), v1] st A Q ↔ XX d 147 32 [some (.ref a), v1] (.ref a :: st) A Q := c_lcl i_147_31 rfl rfl
theorem q_147_32 : XX d 147 32 [v0, v1] (.ref a1 :: st) A Q ↔ XX d 147 33 [v0, v1] (.ref a1 :: .ref a1 :: st) A Q := c_stk i_147_32 rfl
theorem q_147_33 : XX d 147 33 [v0, v1] (.ref a :: st) (mk S I L R G) Q ↔ S a = some (.inr 11) ∧ XX d 147 36 [v0, v1] (.int (I a 12) :: st) (mk S I L R G) Q := r_gf i_147_33 rfl (by decide) rfl
theorem q_147_36 : XX d 147 36 [v0, v1] st A Q ↔ XX d 147 37 [v0, v1] (.int (w 1) :: st) A Q := c_stk i_147_36 rfl
theorem q_147_37 : XX d 147 37 [v0, v1] (.int y :: .int x :: st) A Q ↔ XX d 147 38 [v0, v1] (.int (x + y) :: st) A Q := c_stk i_147_37 rfl
theorem q_147_38 : XX d 147 38 [v0, v1] (.int x :: .ref a :: st) (mk S I L R G) Q ↔ S a = some (.inr 11) ∧ XX d 147 41 [v0, v1] st (mk S (wr I a (up (I a) 12 x)) L R G) Q := r_pf i_147_38 rfl (by decide) rfl rfl rfl
theorem q_147_41 : XX d 147 41 [v0, v1] [] (mk S I L R G) Q ↔ Q (.inr 1) (mk S I L R (G.1 + 1, G.2.1 + 6, G.2.2)) := e_thr i_147_41 rfl (by decide) rfl rfl
theorem q_147_52 : XX d 147 52 [v0, v1] [] A Q ↔ Q (.inl none) A := e_retN i_147_52 rfl
theorem q_147_e : XC d 147 [.ref a0, .int x1] A Q ↔ XX d 147 0 [some (.ref a0), some (.int x1)] [] A Q := Iff.rfl
theorem i_148_0 : t_ins 148 0 = some (.iload_n 0) := by decide +kernel
theorem i_148_1 : t_ins 148 1 = some (.bipush 97) := by decide +kernel
theorem i_148_3 : t_ins 148 3 = some (.if_icmp .lt 13) := by decide +kernel
theorem i_148_6 : t_ins 148 6 = some (.iload_n 0) := by decide +kernel
theorem i_148_7 : t_ins 148 7 = some (.bipush 122) := by decide +kernel
theorem i_148_9 : t_ins 148 9 = some (.if_icmp .gt 7) := by decide +kernel
theorem i_148_12 : t_ins 148 12 = some (.iconst 1) := by decide +kernel
theorem i_148_13 : t_ins 148 13 = some (.goto 4) := by decide +kernel
theorem i_148_16 : t_ins 148 16 = some (.iconst 0) := by decide +kernel
theorem i_148_17 : t_ins 148 17 = some (.ireturn) := by decide +kernel
theorem q_148_0 : XX d 148 0 [some (.int x)] st A Q ↔ XX d 148 1 [some (.int x)] (.int x :: st) A Q := c_lcl i_148_0 rfl rfl
theorem q_148_1 : XX d 148 1 [v0] st A Q ↔ XX d 148 3 [v0] (.int (w 97) :: st) A Q := c_stk i_148_1 rfl
theorem q_148_3 : XX d 148 3 [v0] (.int y :: .int x :: st) A Q ↔ if x < y then XX d 148 16 [v0] st A Q else XX d 148 6 [v0] st A Q := b_lt i_148_3 rfl rfl rfl
theorem q_148_6 : XX d 148 6 [some (.int x)] st A Q ↔ XX d 148 7 [some (.int x)] (.int x :: st) A Q := c_lcl i_148_6 rfl rfl
theorem q_148_7 : XX d 148 7 [v0] st A Q ↔ XX d 148 9 [v0] (.int (w 122) :: st) A Q := c_stk i_148_7 rfl
theorem q_148_9 : XX d 148 9 [v0] (.int y :: .int x :: st) A Q ↔ if y < x then XX d 148 16 [v0] st A Q else XX d 148 12 [v0] st A Q := b_gt i_148_9 rfl rfl rfl
theorem q_148_12 : XX d 148 12 [v0] st A Q ↔ XX d 148 13 [v0] (.int (w 1) :: st) A Q := c_stk i_148_12 rfl
theorem q_148_13 : XX d 148 13 [v0] st A Q ↔ XX d 148 17 [v0] st A Q := c_go i_148_13 rfl rfl
theorem q_148_16 : XX d 148 16 [v0] st A Q ↔ XX d 148 17 [v0] (.int (w 0) :: st) A Q := c_stk i_148_16 rfl
theorem q_148_17 : XX d 148 17 [v0] [.int x] A Q ↔ (x = w 0 ∨ x = w 1) ∧ Q (.inl (some (.int x))) A := e_retZ i_148_17 rfl
theorem q_148_e : XC d 148 [.int x0] A Q ↔ XX d 148 0 [some (.int x0)] [] A Q := Iff.rfl
theorem i_149_0 : t_ins 149 0 = some (.iload_n 0) := by decide +kernel
theorem i_149_1 : t_ins 149 1 = some (.bipush 48) := by decide +kernel
theorem i_149_3 : t_ins 149 3 = some (.if_icmp .lt 13) := by decide +kernel
theorem i_149_6 : t_ins 149 6 = some (.iload_n 0) := by decide +kernel
theorem i_149_7 : t_ins 149 7 = some (.bipush 57) := by decide +kernel
theorem i_149_9 : t_ins 149 9 = some (.if_icmp .gt 7) := by decide +kernel
theorem i_149_12 : t_ins 149 12 = some (.iconst 1) := by decide +kernel
theorem i_149_13 : t_ins 149 13 = some (.goto 4) := by decide +kernel
theorem i_149_16 : t_ins 149 16 = some (.iconst 0) := by decide +kernel
theorem i_149_17 : t_ins 149 17 = some (.ireturn) := by decide +kernel
theorem q_149_0 : XX d 149 0 [some (.int x)] st A Q ↔ XX d 149 1 [some (.int x)] (.int x :: st) A Q := c_lcl i_149_0 rfl rfl
theorem q_149_1 : XX d 149 1 [v0] st A Q ↔ XX d 149 3 [v0] (.int (w 48) :: st) A Q := c_stk i_149_1 rfl
theorem q_149_3 : XX d 149 3 [v0] (.int y :: .int x :: st) A Q ↔ if x < y then XX d 149 16 [v0] st A Q else XX d 149 6 [v0] st A Q := b_lt i_149_3 rfl rfl rfl
theorem q_149_6 : XX d 149 6 [some (.int x)] st A Q ↔ XX d 149 7 [some (.int x)] (.int x :: st) A Q := c_lcl i_149_6 rfl rfl
theorem q_149_7 : XX d 149 7 [v0] st A Q ↔ XX d 149 9 [v0] (.int (w 57) :: st) A Q := c_stk i_149_7 rfl
theorem q_149_9 : XX d 149 9 [v0] (.int y :: .int x :: st) A Q ↔ if y < x then XX d 149 16 [v0] st A Q else XX d 149 12 [v0] st A Q := b_gt i_149_9 rfl rfl rfl
theorem q_149_12 : XX d 149 12 [v0] st A Q ↔ XX d 149 13 [v0] (.int (w 1) :: st) A Q := c_stk i_149_12 rfl
theorem q_149_13 : XX d 149 13 [v0] st A Q ↔ XX d 149 17 [v0] st A Q := c_go i_149_13 rfl rfl
theorem q_149_16 : XX d 149 16 [v0] st A Q ↔ XX d 149 17 [v0] (.int (w 0) :: st) A Q := c_stk i_149_16 rfl
theorem q_149_17 : XX d 149 17 [v0] [.int x] A Q ↔ (x = w 0 ∨ x = w 1) ∧ Q (.inl (some (.int x))) A := e_retZ i_149_17 rfl
theorem q_149_e : XC d 149 [.int x0] A Q ↔ XX d 149 0 [some (.int x0)] [] A Q := Iff.rfl
theorem i_150_0 : t_ins 150 0 = some (.iload 4) := by decide +kernel
theorem i_150_2 : t_ins 150 2 = some (.ifCond .le 38) := by decide +kernel
theorem i_150_5 : t_ins 150 5 = some (.iload_n 1) := by decide +kernel
theorem i_150_6 : t_ins 150 6 = some (.ifCond .lt 34) := by decide +kernel
theorem i_150_9 : t_ins 150 9 = some (.iload_n 3) := by decide +kernel
theorem i_150_10 : t_ins 150 10 = some (.ifCond .lt 30) := by decide +kernel
theorem i_150_13 : t_ins 150 13 = some (.iload_n 1) := by decide +kernel
theorem i_150_14 : t_ins 150 14 = some (.aload_n 0) := by decide +kernel
theorem i_150_15 : t_ins 150 15 = some (.arraylength) := by decide +kernel
theorem i_150_16 : t_ins 150 16 = some (.iload 4) := by decide +kernel
theorem i_150_18 : t_ins 150 18 = some (.isub) := by decide +kernel
theorem i_150_19 : t_ins 150 19 = some (.if_icmp .gt 21) := by decide +kernel
theorem i_150_22 : t_ins 150 22 = some (.iload_n 3) := by decide +kernel
theorem i_150_23 : t_ins 150 23 = some (.aload_n 2) := by decide +kernel
theorem i_150_24 : t_ins 150 24 = some (.arraylength) := by decide +kernel
theorem i_150_25 : t_ins 150 25 = some (.iload 4) := by decide +kernel
theorem i_150_27 : t_ins 150 27 = some (.isub) := by decide +kernel
theorem i_150_28 : t_ins 150 28 = some (.if_icmp .gt 12) := by decide +kernel
theorem i_150_31 : t_ins 150 31 = some (.aload_n 0) := by decide +kernel
theorem i_150_32 : t_ins 150 32 = some (.iload_n 1) := by decide +kernel
theorem i_150_33 : t_ins 150 33 = some (.aload_n 2) := by decide +kernel
theorem i_150_34 : t_ins 150 34 = some (.iload_n 3) := by decide +kernel
theorem i_150_35 : t_ins 150 35 = some (.iload 4) := by decide +kernel
theorem i_150_37 : t_ins 150 37 = some (.invokestatic 362) := by decide +kernel
theorem i_150_40 : t_ins 150 40 = some (.return_) := by decide +kernel
theorem q_150_0 : XX d 150 0 [v0, v1, v2, v3, some (.int x)] st A Q ↔ XX d 150 2 [v0, v1, v2, v3, some (.int x)] (.int x :: st) A Q := c_lcl i_150_0 rfl rfl
theorem q_150_2 : XX d 150 2 [v0, v1, v2, v3, v4] (.int x :: st) A Q ↔ if w 0 < x then XX d 150 5 [v0, v1, v2, v3, v4] st A Q else XX d 150 40 [v0, v1, v2, v3, v4] st A Q := z_le i_150_2 rfl rfl rfl
theorem q_150_5 : XX d 150 5 [v0, some (.int x), v2, v3, v4] st A Q ↔ XX d 150 6 [v0, some (.int x), v2, v3, v4] (.int x :: st) A Q := c_lcl i_150_5 rfl rfl
theorem q_150_6 : XX d 150 6 [v0, v1, v2, v3, v4] (.int x :: st) A Q ↔ if x < w 0 then XX d 150 40 [v0, v1, v2, v3, v4] st A Q else XX d 150 9 [v0, v1, v2, v3, v4] st A Q := z_lt i_150_6 rfl rfl rfl
theorem q_150_9 : XX d 150 9 [v0, v1, v2, some (.int x), v4] st A Q ↔ XX d 150 10 [v0, v1, v2, some (.int x), v4] (.int x :: st) A Q := c_lcl i_150_9 rfl rfl
theorem q_150_10 : XX d 150 10 [v0, v1, v2, v3, v4] (.int x :: st) A Q ↔ if x < w 0 then XX d 150 40 [v0, v1, v2, v3, v4] st A Q else XX d 150 13 [v0, v1, v2, v3, v4] st A Q := z_lt i_150_10 rfl rfl rfl
theorem q_150_13 : XX d 150 13 [v0, some (.int x), v2, v3, v4] st A Q ↔ XX d 150 14 [v0, some (.int x), v2, v3, v4] (.int x :: st) A Q := c_lcl i_150_13 rfl rfl
theorem q_150_14 : XX d 150 14 [some (.ref a), v1, v2, v3, v4] st A Q ↔ XX d 150 15 [some (.ref a), v1, v2, v3, v4] (.ref a :: st) A Q := c_lcl i_150_14 rfl rfl
theorem q_150_15 : XX d 150 15 [v0, v1, v2, v3, v4] (.ref a :: st) (mk S I L R G) Q ↔ alP (S a) (fun n => XX d 150 16 [v0, v1, v2, v3, v4] (.int n :: st) (mk S I L R G) Q) := r_al i_150_15
theorem q_150_16 : XX d 150 16 [v0, v1, v2, v3, some (.int x)] st A Q ↔ XX d 150 18 [v0, v1, v2, v3, some (.int x)] (.int x :: st) A Q := c_lcl i_150_16 rfl rfl
theorem q_150_18 : XX d 150 18 [v0, v1, v2, v3, v4] (.int y :: .int x :: st) A Q ↔ XX d 150 19 [v0, v1, v2, v3, v4] (.int (x - y) :: st) A Q := c_stk i_150_18 rfl
theorem q_150_19 : XX d 150 19 [v0, v1, v2, v3, v4] (.int y :: .int x :: st) A Q ↔ if y < x then XX d 150 40 [v0, v1, v2, v3, v4] st A Q else XX d 150 22 [v0, v1, v2, v3, v4] st A Q := b_gt i_150_19 rfl rfl rfl
theorem q_150_22 : XX d 150 22 [v0, v1, v2, some (.int x), v4] st A Q ↔ XX d 150 23 [v0, v1, v2, some (.int x), v4] (.int x :: st) A Q := c_lcl i_150_22 rfl rfl
theorem q_150_23 : XX d 150 23 [v0, v1, some (.ref a), v3, v4] st A Q ↔ XX d 150 24 [v0, v1, some (.ref a), v3, v4] (.ref a :: st) A Q := c_lcl i_150_23 rfl rfl
theorem q_150_24 : XX d 150 24 [v0, v1, v2, v3, v4] (.ref a :: st) (mk S I L R G) Q ↔ alP (S a) (fun n => XX d 150 25 [v0, v1, v2, v3, v4] (.int n :: st) (mk S I L R G) Q) := r_al i_150_24
theorem q_150_25 : XX d 150 25 [v0, v1, v2, v3, some (.int x)] st A Q ↔ XX d 150 27 [v0, v1, v2, v3, some (.int x)] (.int x :: st) A Q := c_lcl i_150_25 rfl rfl
theorem q_150_27 : XX d 150 27 [v0, v1, v2, v3, v4] (.int y :: .int x :: st) A Q ↔ XX d 150 28 [v0, v1, v2, v3, v4] (.int (x - y) :: st) A Q := c_stk i_150_27 rfl
theorem q_150_28 : XX d 150 28 [v0, v1, v2, v3, v4] (.int y :: .int x :: st) A Q ↔ if y < x then XX d 150 40 [v0, v1, v2, v3, v4] st A Q else XX d 150 31 [v0, v1, v2, v3, v4] st A Q := b_gt i_150_28 rfl rfl rfl
theorem q_150_31 : XX d 150 31 [some (.ref a), v1, v2, v3, v4] st A Q ↔ XX d 150 32 [some (.ref a), v1, v2, v3, v4] (.ref a :: st) A Q := c_lcl i_150_31 rfl rfl
theorem q_150_32 : XX d 150 32 [v0, some (.int x), v2, v3, v4] st A Q ↔ XX d 150 33 [v0, some (.int x), v2, v3, v4] (.int x :: st) A Q := c_lcl i_150_32 rfl rfl
theorem q_150_33 : XX d 150 33 [v0, v1, some (.ref a), v3, v4] st A Q ↔ XX d 150 34 [v0, v1, some (.ref a), v3, v4] (.ref a :: st) A Q := c_lcl i_150_33 rfl rfl
theorem q_150_34 : XX d 150 34 [v0, v1, v2, some (.int x), v4] st A Q ↔ XX d 150 35 [v0, v1, v2, some (.int x), v4] (.int x :: st) A Q := c_lcl i_150_34 rfl rfl
theorem q_150_35 : XX d 150 35 [v0, v1, v2, v3, some (.int x)] st A Q ↔ XX d 150 37 [v0, v1, v2, v3, some (.int x)] (.int x :: st) A Q := c_lcl i_150_35 rfl rfl
theorem q_150_37 (ha : S a = some (.inl (t, kk))) (hb : S b = some (.inl (t, jj))) (ht : t = 0 ∨ t = 2) : XX d 150 37 [v0, v1, v2, v3, v4] [.int z, .int y, .ref b, .int x, .ref a] (mk S I L R G) Q ↔ (a ≠ b ∧ ¬ x < w 0 ∧ ¬ y < w 0 ∧ ¬ z < w 0 ∧ ix x + ix z ≤ kk ∧ ix y + ix z ≤ jj) ∧ XX d 150 40 [v0, v1, v2, v3, v4] [] (mk S (wr I b (va_cpy (I a) (I b) (ix x) (ix y) (ix z))) L R G) Q := r_cp ha hb ht i_150_37 rfl rfl (Nat.le_of_ble_eq_true rfl)
theorem q_150_40 : XX d 150 40 [v0, v1, v2, v3, v4] [] A Q ↔ Q (.inl none) A := e_retN i_150_40 rfl
theorem q_150_e : XC d 150 [.ref a0, .int x1, .ref a2, .int x3, .int x4] A Q ↔ XX d 150 0 [some (.ref a0), some (.int x1), some (.ref a2), some (.int x3), some (.int x4)] [] A Q := Iff.rfl
theorem i_151_0 : t_ins 151 0 = some (.iload_n 1) := by decide +kernel
theorem i_151_1 : t_ins 151 1 = some (.ifCond .lt 26) := by decide +kernel
theorem i_151_4 : t_ins 151 4 = some (.iload 4) := by decide +kernel
theorem i_151_6 : t_ins 151 6 = some (.ifCond .lt 21) := by decide +kernel
theorem i_151_9 : t_ins 151 9 = some (.iload_n 1) := by decide +kernel
theorem i_151_10 : t_ins 151 10 = some (.aload_n 0) := by decide +kernel
theorem i_151_11 : t_ins 151 11 = some (.arraylength) := by decide +kernel
theorem i_151_12 : t_ins 151 12 = some (.iload_n 2) := by decide +kernel
theorem i_151_13 : t_ins 151 13 = some (.isub) := by decide +kernel
theorem i_151_14 : t_ins 151 14 = some (.if_icmp .gt 13) := by decide +kernel
theorem i_151_17 : t_ins 151 17 = some (.iload 4) := by decide +kernel
theorem i_151_19 : t_ins 151 19 = some (.aload_n 3) := by decide +kernel
theorem i_151_20 : t_ins 151 20 = some (.arraylength) := by decide +kernel
theorem i_151_21 : t_ins 151 21 = some (.iload 5) := by decide +kernel
theorem i_151_23 : t_ins 151 23 = some (.isub) := by decide +kernel
theorem i_151_24 : t_ins 151 24 = some (.if_icmp .le 5) := by decide +kernel
theorem i_151_27 : t_ins 151 27 = some (.iconst 0) := by decide +kernel
theorem i_151_28 : t_ins 151 28 = some (.ireturn) := by decide +kernel
theorem i_151_29 : t_ins 151 29 = some (.iload_n 2) := by decide +kernel
theorem i_151_30 : t_ins 151 30 = some (.iload 5) := by decide +kernel
theorem i_151_32 : t_ins 151 32 = some (.invokestatic 368) := by decide +kernel
theorem i_151_35 : t_ins 151 35 = some (.istore 6) := by decide +kernel
theorem i_151_37 : t_ins 151 37 = some (.iconst 0) := by decide +kernel
theorem i_151_38 : t_ins 151 38 = some (.istore 7) := by decide +kernel
theorem i_151_40 : t_ins 151 40 = some (.iload 7) := by decide +kernel
theorem i_151_42 : t_ins 151 42 = some (.iload 6) := by decide +kernel
theorem i_151_44 : t_ins 151 44 = some (.if_icmp .ge 41) := by decide +kernel
theorem i_151_47 : t_ins 151 47 = some (.aload_n 0) := by decide +kernel
theorem i_151_48 : t_ins 151 48 = some (.iload_n 1) := by decide +kernel
theorem i_151_49 : t_ins 151 49 = some (.iload 7) := by decide +kernel
theorem i_151_51 : t_ins 151 51 = some (.iadd) := by decide +kernel
theorem i_151_52 : t_ins 151 52 = some (.baload) := by decide +kernel
theorem i_151_53 : t_ins 151 53 = some (.sipush 255) := by decide +kernel
theorem i_151_56 : t_ins 151 56 = some (.iand) := by decide +kernel
theorem i_151_57 : t_ins 151 57 = some (.aload_n 3) := by decide +kernel
theorem i_151_58 : t_ins 151 58 = some (.iload 4) := by decide +kernel
theorem i_151_60 : t_ins 151 60 = some (.iload 7) := by decide +kernel
theorem i_151_62 : t_ins 151 62 = some (.iadd) := by decide +kernel
theorem i_151_63 : t_ins 151 63 = some (.baload) := by decide +kernel
theorem i_151_64 : t_ins 151 64 = some (.sipush 255) := by decide +kernel
theorem i_151_67 : t_ins 151 67 = some (.iand) := by decide +kernel
theorem i_151_68 : t_ins 151 68 = some (.isub) := by decide +kernel
theorem i_151_69 : t_ins 151 69 = some (.istore 8) := by decide +kernel
theorem i_151_71 : t_ins 151 71 = some (.iload 8) := by decide +kernel
theorem i_151_73 : t_ins 151 73 = some (.ifCond .eq 6) := by decide +kernel
theorem i_151_76 : t_ins 151 76 = some (.iload 8) := by decide +kernel
theorem i_151_78 : t_ins 151 78 = some (.ireturn) := by decide +kernel
theorem i_151_79 : t_ins 151 79 = some (.iinc 7 1) := by decide +kernel
theorem i_151_82 : t_ins 151 82 = some (.goto (-42)) := by decide +kernel
theorem i_151_85 : t_ins 151 85 = some (.iload_n 2) := by decide +kernel
theorem i_151_86 : t_ins 151 86 = some (.iload 5) := by decide +kernel
theorem i_151_88 : t_ins 151 88 = some (.isub) := by decide +kernel
theorem i_151_89 : t_ins 151 89 = some (.ireturn) := by decide +kernel
theorem q_151_0 : XX d 151 0 [v0, some (.int x), v2, v3, v4, v5, v6, v7, v8] st A Q ↔ XX d 151 1 [v0, some (.int x), v2, v3, v4, v5, v6, v7, v8] (.int x :: st) A Q := c_lcl i_151_0 rfl rfl
theorem q_151_1 : XX d 151 1 [v0, v1, v2, v3, v4, v5, v6, v7, v8] (.int x :: st) A Q ↔ if x < w 0 then XX d 151 27 [v0, v1, v2, v3, v4, v5, v6, v7, v8] st A Q else XX d 151 4 [v0, v1, v2, v3, v4, v5, v6, v7, v8] st A Q := z_lt i_151_1 rfl rfl rfl
theorem q_151_4 : XX d 151 4 [v0, v1, v2, v3, some (.int x), v5, v6, v7, v8] st A Q ↔ XX d 151 6 [v0, v1, v2, v3, some (.int x), v5, v6, v7, v8] (.int x :: st) A Q := c_lcl i_151_4 rfl rfl
theorem q_151_6 : XX d 151 6 [v0, v1, v2, v3, v4, v5, v6, v7, v8] (.int x :: st) A Q ↔ if x < w 0 then XX d 151 27 [v0, v1, v2, v3, v4, v5, v6, v7, v8] st A Q else XX d 151 9 [v0, v1, v2, v3, v4, v5, v6, v7, v8] st A Q := z_lt i_151_6 rfl rfl rfl
theorem q_151_9 : XX d 151 9 [v0, some (.int x), v2, v3, v4, v5, v6, v7, v8] st A Q ↔ XX d 151 10 [v0, some (.int x), v2, v3, v4, v5, v6, v7, v8] (.int x :: st) A Q := c_lcl i_151_9 rfl rfl
theorem q_151_10 : XX d 151 10 [some (.ref a), v1, v2, v3, v4, v5, v6, v7, v8] st A Q ↔ XX d 151 11 [some (.ref a), v1, v2, v3, v4, v5, v6, v7, v8] (.ref a :: st) A Q := c_lcl i_151_10 rfl rfl
theorem q_151_11 : XX d 151 11 [v0, v1, v2, v3, v4, v5, v6, v7, v8] (.ref a :: st) (mk S I L R G) Q ↔ alP (S a) (fun n => XX d 151 12 [v0, v1, v2, v3, v4, v5, v6, v7, v8] (.int n :: st) (mk S I L R G) Q) := r_al i_151_11
theorem q_151_12 : XX d 151 12 [v0, v1, some (.int x), v3, v4, v5, v6, v7, v8] st A Q ↔ XX d 151 13 [v0, v1, some (.int x), v3, v4, v5, v6, v7, v8] (.int x :: st) A Q := c_lcl i_151_12 rfl rfl
theorem q_151_13 : XX d 151 13 [v0, v1, v2, v3, v4, v5, v6, v7, v8] (.int y :: .int x :: st) A Q ↔ XX d 151 14 [v0, v1, v2, v3, v4, v5, v6, v7, v8] (.int (x - y) :: st) A Q := c_stk i_151_13 rfl
theorem q_151_14 : XX d 151 14 [v0, v1, v2, v3, v4, v5, v6, v7, v8] (.int y :: .int x :: st) A Q ↔ if y < x then XX d 151 27 [v0, v1, v2, v3, v4, v5, v6, v7, v8] st A Q else XX d 151 17 [v0, v1, v2, v3, v4, v5, v6, v7, v8] st A Q := b_gt i_151_14 rfl rfl rfl
theorem q_151_17 : XX d 151 17 [v0, v1, v2, v3, some (.int x), v5, v6, v7, v8] st A Q ↔ XX d 151 19 [v0, v1, v2, v3, some (.int x), v5, v6, v7, v8] (.int x :: st) A Q := c_lcl i_151_17 rfl rfl
theorem q_151_19 : XX d 151 19 [v0, v1, v2, some (.ref a), v4, v5, v6, v7, v8] st A Q ↔ XX d 151 20 [v0, v1, v2, some (.ref a), v4, v5, v6, v7, v8] (.ref a :: st) A Q := c_lcl i_151_19 rfl rfl
theorem q_151_20 : XX d 151 20 [v0, v1, v2, v3, v4, v5, v6, v7, v8] (.ref a :: st) (mk S I L R G) Q ↔ alP (S a) (fun n => XX d 151 21 [v0, v1, v2, v3, v4, v5, v6, v7, v8] (.int n :: st) (mk S I L R G) Q) := r_al i_151_20
theorem q_151_21 : XX d 151 21 [v0, v1, v2, v3, v4, some (.int x), v6, v7, v8] st A Q ↔ XX d 151 23 [v0, v1, v2, v3, v4, some (.int x), v6, v7, v8] (.int x :: st) A Q := c_lcl i_151_21 rfl rfl
theorem q_151_23 : XX d 151 23 [v0, v1, v2, v3, v4, v5, v6, v7, v8] (.int y :: .int x :: st) A Q ↔ XX d 151 24 [v0, v1, v2, v3, v4, v5, v6, v7, v8] (.int (x - y) :: st) A Q := c_stk i_151_23 rfl
theorem q_151_24 : XX d 151 24 [v0, v1, v2, v3, v4, v5, v6, v7, v8] (.int y :: .int x :: st) A Q ↔ if y < x then XX d 151 27 [v0, v1, v2, v3, v4, v5, v6, v7, v8] st A Q else XX d 151 29 [v0, v1, v2, v3, v4, v5, v6, v7, v8] st A Q := b_le i_151_24 rfl rfl rfl
theorem q_151_27 : XX d 151 27 [v0, v1, v2, v3, v4, v5, v6, v7, v8] st A Q ↔ XX d 151 28 [v0, v1, v2, v3, v4, v5, v6, v7, v8] (.int (w 0) :: st) A Q := c_stk i_151_27 rfl
theorem q_151_28 : XX d 151 28 [v0, v1, v2, v3, v4, v5, v6, v7, v8] [.int x] A Q ↔ Q (.inl (some (.int x))) A := e_retI i_151_28 rfl
theorem q_151_29 : XX d 151 29 [v0, v1, some (.int x), v3, v4, v5, v6, v7, v8] st A Q ↔ XX d 151 30 [v0, v1, some (.int x), v3, v4, v5, v6, v7, v8] (.int x :: st) A Q := c_lcl i_151_29 rfl rfl
theorem q_151_30 : XX d 151 30 [v0, v1, v2, v3, v4, some (.int x), v6, v7, v8] st A Q ↔ XX d 151 32 [v0, v1, v2, v3, v4, some (.int x), v6, v7, v8] (.int x :: st) A Q := c_lcl i_151_30 rfl rfl
theorem q_151_32 : XX d 151 32 [v0, v1, v2, v3, v4, v5, v6, v7, v8] [.int y, .int x] A Q ↔ XX d 151 35 [v0, v1, v2, v3, v4, v5, v6, v7, v8] [.int (if y < x then y else x)] A Q := r_min i_151_32 rfl rfl (Nat.le_of_ble_eq_true rfl)
theorem q_151_35 : XX d 151 35 [v0, v1, v2, v3, v4, some (.int z), v6, v7, v8] (.int x :: st) A Q ↔ XX d 151 37 [v0, v1, v2, v3, v4, some (.int z), some (.int x), v7, v8] st A Q := c_lcl i_151_35 rfl rfl
theorem q_151_37 : XX d 151 37 [v0, v1, v2, v3, v4, v5, v6, v7, v8] st A Q ↔ XX d 151 38 [v0, v1, v2, v3, v4, v5, v6, v7, v8] (.int (w 0) :: st) A Q := c_stk i_151_37 rfl
theorem q_151_38 : XX d 151 38 [v0, v1, v2, v3, v4, v5, some (.int z), v7, v8] (.int x :: st) A Q ↔ XX d 151 40 [v0, v1, v2, v3, v4, v5, some (.int z), some (.int x), v8] st A Q := c_lcl i_151_38 rfl rfl
theorem q_151_40 : XX d 151 40 [v0, v1, v2, v3, v4, v5, v6, some (.int x), v8] st A Q ↔ XX d 151 42 [v0, v1, v2, v3, v4, v5, v6, some (.int x), v8] (.int x :: st) A Q := c_lcl i_151_40 rfl rfl
theorem q_151_42 : XX d 151 42 [v0, v1, v2, v3, v4, v5, some (.int x), v7, v8] st A Q ↔ XX d 151 44 [v0, v1, v2, v3, v4, v5, some (.int x), v7, v8] (.int x :: st) A Q := c_lcl i_151_42 rfl rfl
theorem q_151_44 : XX d 151 44 [v0, v1, v2, v3, v4, v5, v6, v7, v8] (.int y :: .int x :: st) A Q ↔ if x < y then XX d 151 47 [v0, v1, v2, v3, v4, v5, v6, v7, v8] st A Q else XX d 151 85 [v0, v1, v2, v3, v4, v5, v6, v7, v8] st A Q := b_ge i_151_44 rfl rfl rfl
theorem q_151_47 : XX d 151 47 [some (.ref a), v1, v2, v3, v4, v5, v6, v7, v8] st A Q ↔ XX d 151 48 [some (.ref a), v1, v2, v3, v4, v5, v6, v7, v8] (.ref a :: st) A Q := c_lcl i_151_47 rfl rfl
theorem q_151_48 : XX d 151 48 [v0, some (.int x), v2, v3, v4, v5, v6, v7, v8] st A Q ↔ XX d 151 49 [v0, some (.int x), v2, v3, v4, v5, v6, v7, v8] (.int x :: st) A Q := c_lcl i_151_48 rfl rfl
theorem q_151_49 : XX d 151 49 [v0, v1, v2, v3, v4, v5, v6, some (.int x), v8] st A Q ↔ XX d 151 51 [v0, v1, v2, v3, v4, v5, v6, some (.int x), v8] (.int x :: st) A Q := c_lcl i_151_49 rfl rfl
theorem q_151_51 : XX d 151 51 [v0, v1, v2, v3, v4, v5, v6, v7, v8] (.int y :: .int x :: st) A Q ↔ XX d 151 52 [v0, v1, v2, v3, v4, v5, v6, v7, v8] (.int (x + y) :: st) A Q := c_stk i_151_51 rfl
theorem q_151_52 : XX d 151 52 [v0, v1, v2, v3, v4, v5, v6, v7, v8] (.int x :: .ref a :: st) (mk S I L R G) Q ↔ inA (S a) ok_b x ∧ XX d 151 53 [v0, v1, v2, v3, v4, v5, v6, v7, v8] (.int (I a (ix x)) :: st) (mk S I L R G) Q := r_ba i_151_52
theorem q_151_53 : XX d 151 53 [v0, v1, v2, v3, v4, v5, v6, v7, v8] st A Q ↔ XX d 151 56 [v0, v1, v2, v3, v4, v5, v6, v7, v8] (.int (w 255) :: st) A Q := c_stk i_151_53 rfl
theorem q_151_56 : XX d 151 56 [v0, v1, v2, v3, v4, v5, v6, v7, v8] (.int y :: .int x :: st) A Q ↔ XX d 151 57 [v0, v1, v2, v3, v4, v5, v6, v7, v8] (.int (x &&& y) :: st) A Q := c_stk i_151_56 rfl
theorem q_151_57 : XX d 151 57 [v0, v1, v2, some (.ref a), v4, v5, v6, v7, v8] st A Q ↔ XX d 151 58 [v0, v1, v2, some (.ref a), v4, v5, v6, v7, v8] (.ref a :: st) A Q := c_lcl i_151_57 rfl rfl
theorem q_151_58 : XX d 151 58 [v0, v1, v2, v3, some (.int x), v5, v6, v7, v8] st A Q ↔ XX d 151 60 [v0, v1, v2, v3, some (.int x), v5, v6, v7, v8] (.int x :: st) A Q := c_lcl i_151_58 rfl rfl
theorem q_151_60 : XX d 151 60 [v0, v1, v2, v3, v4, v5, v6, some (.int x), v8] st A Q ↔ XX d 151 62 [v0, v1, v2, v3, v4, v5, v6, some (.int x), v8] (.int x :: st) A Q := c_lcl i_151_60 rfl rfl
theorem q_151_62 : XX d 151 62 [v0, v1, v2, v3, v4, v5, v6, v7, v8] (.int y :: .int x :: st) A Q ↔ XX d 151 63 [v0, v1, v2, v3, v4, v5, v6, v7, v8] (.int (x + y) :: st) A Q := c_stk i_151_62 rfl
theorem q_151_63 : XX d 151 63 [v0, v1, v2, v3, v4, v5, v6, v7, v8] (.int x :: .ref a :: st) (mk S I L R G) Q ↔ inA (S a) ok_b x ∧ XX d 151 64 [v0, v1, v2, v3, v4, v5, v6, v7, v8] (.int (I a (ix x)) :: st) (mk S I L R G) Q := r_ba i_151_63
theorem q_151_64 : XX d 151 64 [v0, v1, v2, v3, v4, v5, v6, v7, v8] st A Q ↔ XX d 151 67 [v0, v1, v2, v3, v4, v5, v6, v7, v8] (.int (w 255) :: st) A Q := c_stk i_151_64 rfl
theorem q_151_67 : XX d 151 67 [v0, v1, v2, v3, v4, v5, v6, v7, v8] (.int y :: .int x :: st) A Q ↔ XX d 151 68 [v0, v1, v2, v3, v4, v5, v6, v7, v8] (.int (x &&& y) :: st) A Q := c_stk i_151_67 rfl
theorem q_151_68 : XX d 151 68 [v0, v1, v2, v3, v4, v5, v6, v7, v8] (.int y :: .int x :: st) A Q ↔ XX d 151 69 [v0, v1, v2, v3, v4, v5, v6, v7, v8] (.int (x - y) :: st) A Q := c_stk i_151_68 rfl
theorem q_151_69 : XX d 151 69 [v0, v1, v2, v3, v4, v5, v6, some (.int z), v8] (.int x :: st) A Q ↔ XX d 151 71 [v0, v1, v2, v3, v4, v5, v6, some (.int z), some (.int x)] st A Q := c_lcl i_151_69 rfl rfl
theorem q_151_71 : XX d 151 71 [v0, v1, v2, v3, v4, v5, v6, v7, some (.int x)] st A Q ↔ XX d 151 73 [v0, v1, v2, v3, v4, v5, v6, v7, some (.int x)] (.int x :: st) A Q := c_lcl i_151_71 rfl rfl
theorem q_151_73 : XX d 151 73 [v0, v1, v2, v3, v4, v5, v6, v7, v8] (.int x :: st) A Q ↔ if x = w 0 then XX d 151 79 [v0, v1, v2, v3, v4, v5, v6, v7, v8] st A Q else XX d 151 76 [v0, v1, v2, v3, v4, v5, v6, v7, v8] st A Q := z_eq i_151_73 rfl rfl rfl
theorem q_151_76 : XX d 151 76 [v0, v1, v2, v3, v4, v5, v6, v7, some (.int x)] st A Q ↔ XX d 151 78 [v0, v1, v2, v3, v4, v5, v6, v7, some (.int x)] (.int x :: st) A Q := c_lcl i_151_76 rfl rfl
theorem q_151_78 : XX d 151 78 [v0, v1, v2, v3, v4, v5, v6, v7, v8] [.int x] A Q ↔ Q (.inl (some (.int x))) A := e_retI i_151_78 rfl
theorem q_151_79 : XX d 151 79 [v0, v1, v2, v3, v4, v5, some (.int z), some (.int x), v8] st A Q ↔ XX d 151 82 [v0, v1, v2, v3, v4, v5, some (.int z), some (.int (x + w 1)), v8] st A Q := c_lcl i_151_79 rfl rfl
theorem q_151_82 : XX d 151 82 [v0, v1, v2, v3, v4, v5, v6, v7, v8] st A Q ↔ XX d 151 40 [v0, v1, v2, v3, v4, v5, v6, v7, v8] st A Q := c_go i_151_82 rfl rfl
theorem q_151_85 : XX d 151 85 [v0, v1, some (.int x), v3, v4, v5, v6, v7, v8] st A Q ↔ XX d 151 86 [v0, v1, some (.int x), v3, v4, v5, v6, v7, v8] (.int x :: st) A Q := c_lcl i_151_85 rfl rfl
theorem q_151_86 : XX d 151 86 [v0, v1, v2, v3, v4, some (.int x), v6, v7, v8] st A Q ↔ XX d 151 88 [v0, v1, v2, v3, v4, some (.int x), v6, v7, v8] (.int x :: st) A Q := c_lcl i_151_86 rfl rfl
theorem q_151_88 : XX d 151 88 [v0, v1, v2, v3, v4, v5, v6, v7, v8] (.int y :: .int x :: st) A Q ↔ XX d 151 89 [v0, v1, v2, v3, v4, v5, v6, v7, v8] (.int (x - y) :: st) A Q := c_stk i_151_88 rfl
theorem q_151_89 : XX d 151 89 [v0, v1, v2, v3, v4, v5, v6, v7, v8] [.int x] A Q ↔ Q (.inl (some (.int x))) A := e_retI i_151_89 rfl
theorem q_151_e : XC d 151 [.ref a0, .int x1, .int x2, .ref a3, .int x4, .int x5] A Q ↔ XX d 151 0 [some (.ref a0), some (.int x1), some (.int x2), some (.ref a3), some (.int x4), some (.int x5), none, none, none] [] A Q := Iff.rfl
end

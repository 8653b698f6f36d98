/-! the memo's methods -/
def gi (I : MI) (a j : Nat) : Int := (I a j).toInt
theorem gi_w (I : MI) (a j : Nat) : I a j = w (gi I a j) := (w_self _).symm
theorem gi_bd (I : MI) (a j : Nat) : -2147483648 ≤ gi I a j ∧ gi I a j < 2147483648 := ⟨Int32.le_toInt _, Int32.toInt_lt _⟩
theorem gi_eq {I : MI} {a j : Nat} {z : Int} (h : I a j = w z) (h1 : -2147483648 ≤ z) (h2 : z < 2147483648) : gi I a j = z := by
  unfold gi; rw [h, w_toInt h1 h2]
theorem gi_ne {I : MI} {a b j : Nat} {f : Nat → Int32} (h : b ≠ a) : gi (wr I a f) b j = gi I b j := by
  unfold gi; rw [wr_ne h]
theorem gi_up {I : MI} {a k j : Nat} {x : Int} (h1 : -2147483648 ≤ x) (h2 : x < 2147483648) : gi (wr I a (up (I a) k (w x))) a j = if j = k then x else gi I a j := by
  unfold gi
  rw [wr_same]
  by_cases h : j = k
  · subst h; rw [up_same, w_toInt h1 h2, if_pos rfl]
  · rw [up_ne h, if_neg h]
def slot (n : Int) : Int := if 1000 < n then 1001 + n % 151 else if n < 0 then 0 else n
def sl (n : Int) : Nat := (slot n).toNat
theorem slot_bd (n : Int) : 0 ≤ slot n ∧ slot n < 1152 := by
  unfold slot; split
  · omega
  · split <;> omega
theorem sl_bd (n : Int) : sl n < 1152 := by have := slot_bd n; unfold sl; omega
theorem sl_w (n : Int) : (slot n).toNat = sl n := rfl
theorem sl_small {n : Int} (h1 : 0 ≤ n) (h2 : n ≤ 1000) : sl n = n.toNat := by unfold sl slot; rw [if_neg (by omega), if_neg (by omega)]
theorem sl_c (n : Int) : (sl n : Int) = slot n := by have := slot_bd n; unfold sl; omega
def MemoS (S : SH) (a : Nat) : Prop := S a = some (.inr 4) ∧ S (a + 1) = some (.inl (2, 115200)) ∧ S (a + 2) = some (.inl (0, 1152)) ∧ S (a + 3) = some (.inl (0, 1152)) ∧ S (a + 4) = some (.inl (0, 1152)) ∧ S (a + 5) = some (.inl (0, 1152))
section
variable {d : Nat} {Q : XO → Hp → Prop} {S : SH} {I : MI} {L : ML} {R : MR} {G : MG} {A : Hp}
variable {a : Nat} {n : Int}
theorem sp_27 (h1 : -2147483648 ≤ n) (h2 : n < 2147483648) : XC d 27 [.ref a, .int (w n)] A Q ↔ Q (.inl (some (.int (w (slot n))))) A := by
  simp (disch := omega) only [q_27_0, q_27_1, q_27_4, q_27_7, q_27_8, q_27_11, q_27_12, q_27_15, q_27_16, q_27_17, q_27_20, q_27_21, q_27_24, q_27_25, q_27_26, q_27_e, va_rf_s, bz_0, bz_1, bz_ok, bb_ok, Nat.add_assoc, w_lt, w_add, w_sub, w_mul, w_div, em_def, w_eq, w_inT, ↓ilt_t, ↓ilt_f, ↓ieq_t, ↓ieq_f, ntT, w_b, w_ix, kx_v, kx_n, kl_n, kl_i, kl_r, kl_o, inA_i, inA_s, inA_b, inA_z, inA_l, inA_0, inA_4, inA_5, inA_6, inA_7, inA_8, inA_9, inA_10, al_0, al_1, al_2, al_4, al_5, al_98, bsP_2, bsP_3, wr_same, wr_wr, wr_ne, up_same, up_ne, Nat.reduceAdd, Int.reduceAdd, Int.reduceSub, Int.reduceMul, Int.reduceLT, Int.reduceLE, Int.reduceEq, Int.reduceNeg, Int.reduceToNat, Nat.reduceLT, Nat.reduceLeDiff, Nat.reduceEqDiff, ↓reduceIte, true_and, and_true, not_true_eq_false, not_false_eq_true, eq_self, or_true, true_or, or_false, false_or, if_true, if_false, Int.toNat_natCast, w_ite, Nat.add_zero, reduceCtorEq, ne_eq]
  unfold slot
  split
  · exact Iff.rfl
  · split <;> exact Iff.rfl
theorem sp_28 (h : MemoS S a) (h1 : -2147483648 ≤ n) (h2 : n < 2147483648) : XC (d + 1) 28 [.ref a, .int (w n)] (mk S I L R G) Q ↔ Q (.inl (some (.int (bz (decide (0 ≤ n) && decide (gi I (a + 2) (sl n) = n)))))) (mk S I L R G) := by
  obtain ⟨g0, g1, g2, g3, g4, g5⟩ := h
  have hb := slot_bd n
  have hI := gi_w I
  have b1 := gi_bd I (a + 2) (sl n)
  simp (disch := omega) only [q_28_0, q_28_1, q_28_4, q_28_5, q_28_8, q_28_9, q_28_10, q_28_13, q_28_14, q_28_15, q_28_18, q_28_19, q_28_22, q_28_23, q_28_e, va_rf_s, bz_0, bz_1, bz_ok, bb_ok, Nat.add_assoc, w_lt, w_add, w_sub, w_mul, w_div, em_def, w_eq, w_inT, ↓ilt_t, ↓ilt_f, ↓ieq_t, ↓ieq_f, ntT, w_b, w_ix, kx_v, kx_n, kl_n, kl_i, kl_r, kl_o, inA_i, inA_s, inA_b, inA_z, inA_l, inA_0, inA_4, inA_5, inA_6, inA_7, inA_8, inA_9, inA_10, al_0, al_1, al_2, al_4, al_5, al_98, bsP_2, bsP_3, wr_same, wr_wr, wr_ne, up_same, up_ne, Nat.reduceAdd, Int.reduceAdd, Int.reduceSub, Int.reduceMul, Int.reduceLT, Int.reduceLE, Int.reduceEq, Int.reduceNeg, Int.reduceToNat, Nat.reduceLT, Nat.reduceLeDiff, Nat.reduceEqDiff, ↓reduceIte, true_and, and_true, not_true_eq_false, not_false_eq_true, eq_self, or_true, true_or, or_false, false_or, if_true, if_false, Int.toNat_natCast, w_ite, Nat.add_zero, reduceCtorEq, ne_eq, sp_27, g0, g2, sl_w, hI]
  unfold bz
  by_cases c1 : n < 0
  · simp [c1, Int.not_le.mpr c1]
  · by_cases c2 : gi I (a + 2) (sl n) = n
    · simp [c1, c2, Int.not_lt.mp c1]
    · simp [c1, c2]
/-- what the memo has of a number -/
def mSil (I : MI) (a : Nat) (n : Int) : Bool := decide (0 ≤ n) && decide (gi I (a + 2) (sl n) = n) && decide (gi I (a + 3) (sl n) = -1)
def mSaid (I : MI) (a : Nat) (n : Int) : Bool := decide (0 ≤ n) && decide (gi I (a + 2) (sl n) = n) && !decide (gi I (a + 3) (sl n) = -1)
theorem sp_29 (h : MemoS S a) (h1 : -2147483648 ≤ n) (h2 : n < 2147483648) : XC (d + 1) 29 [.ref a, .int (w n)] (mk S I L R G) Q ↔ Q (.inl (some (.int (bz (mSil I a n))))) (mk S I L R G) := by
  obtain ⟨g0, g1, g2, g3, g4, g5⟩ := h
  have hb := slot_bd n
  have hI := gi_w I
  have b1 := gi_bd I (a + 2) (sl n)
  have b2 := gi_bd I (a + 3) (sl n)
  simp (disch := omega) only [q_29_0, q_29_1, q_29_2, q_29_5, q_29_6, q_29_7, q_29_10, q_29_11, q_29_14, q_29_15, q_29_16, q_29_17, q_29_20, q_29_21, q_29_24, q_29_25, q_29_26, q_29_27, q_29_30, q_29_31, q_29_34, q_29_35, q_29_e, va_rf_s, bz_0, bz_1, bz_ok, bb_ok, Nat.add_assoc, w_lt, w_add, w_sub, w_mul, w_div, em_def, w_eq, w_inT, ↓ilt_t, ↓ilt_f, ↓ieq_t, ↓ieq_f, ntT, w_b, w_ix, kx_v, kx_n, kl_n, kl_i, kl_r, kl_o, inA_i, inA_s, inA_b, inA_z, inA_l, inA_0, inA_4, inA_5, inA_6, inA_7, inA_8, inA_9, inA_10, al_0, al_1, al_2, al_4, al_5, al_98, bsP_2, bsP_3, wr_same, wr_wr, wr_ne, up_same, up_ne, Nat.reduceAdd, Int.reduceAdd, Int.reduceSub, Int.reduceMul, Int.reduceLT, Int.reduceLE, Int.reduceEq, Int.reduceNeg, Int.reduceToNat, Nat.reduceLT, Nat.reduceLeDiff, Nat.reduceEqDiff, ↓reduceIte, true_and, and_true, not_true_eq_false, not_false_eq_true, eq_self, or_true, true_or, or_false, false_or, if_true, if_false, Int.toNat_natCast, w_ite, Nat.add_zero, reduceCtorEq, ne_eq, sp_27, g0, g2, g3, sl_w, hI]
  unfold bz mSil
  by_cases c1 : n < 0
  · simp [c1, Int.not_le.mpr c1]
  · by_cases c2 : gi I (a + 2) (sl n) = n
    · by_cases c3 : gi I (a + 3) (sl n) = -1
      · simp [c1, c2, c3, Int.not_lt.mp c1]
      · simp [c1, c2, c3, Int.not_lt.mp c1]
    · simp [c1, c2]
theorem sp_30 (h : MemoS S a) (h1 : -2147483648 ≤ n) (h2 : n < 2147483648) : XC (d + 1) 30 [.ref a, .int (w n)] (mk S I L R G) Q ↔ Q (.inl (some (.int (bz (mSaid I a n))))) (mk S I L R G) := by
  obtain ⟨g0, g1, g2, g3, g4, g5⟩ := h
  have hb := slot_bd n
  have hI := gi_w I
  have b1 := gi_bd I (a + 2) (sl n)
  have b2 := gi_bd I (a + 3) (sl n)
  simp (disch := omega) only [q_30_0, q_30_1, q_30_2, q_30_5, q_30_6, q_30_7, q_30_10, q_30_11, q_30_14, q_30_15, q_30_16, q_30_17, q_30_20, q_30_21, q_30_24, q_30_25, q_30_26, q_30_27, q_30_30, q_30_31, q_30_34, q_30_35, q_30_e, va_rf_s, bz_0, bz_1, bz_ok, bb_ok, Nat.add_assoc, w_lt, w_add, w_sub, w_mul, w_div, em_def, w_eq, w_inT, ↓ilt_t, ↓ilt_f, ↓ieq_t, ↓ieq_f, ntT, w_b, w_ix, kx_v, kx_n, kl_n, kl_i, kl_r, kl_o, inA_i, inA_s, inA_b, inA_z, inA_l, inA_0, inA_4, inA_5, inA_6, inA_7, inA_8, inA_9, inA_10, al_0, al_1, al_2, al_4, al_5, al_98, bsP_2, bsP_3, wr_same, wr_wr, wr_ne, up_same, up_ne, Nat.reduceAdd, Int.reduceAdd, Int.reduceSub, Int.reduceMul, Int.reduceLT, Int.reduceLE, Int.reduceEq, Int.reduceNeg, Int.reduceToNat, Nat.reduceLT, Nat.reduceLeDiff, Nat.reduceEqDiff, ↓reduceIte, true_and, and_true, not_true_eq_false, not_false_eq_true, eq_self, or_true, true_or, or_false, false_or, if_true, if_false, Int.toNat_natCast, w_ite, Nat.add_zero, reduceCtorEq, ne_eq, sp_27, g0, g2, g3, sl_w, hI]
  unfold bz mSaid
  by_cases c1 : n < 0
  · simp [c1, Int.not_le.mpr c1]
  · by_cases c2 : gi I (a + 2) (sl n) = n
    · by_cases c3 : gi I (a + 3) (sl n) = -1
      · simp [c1, c2, c3, Int.not_lt.mp c1]
      · simp [c1, c2, c3, Int.not_lt.mp c1]
    · simp [c1, c2]
theorem sp_31 (h : MemoS S a) (h1 : -2147483648 ≤ n) (h2 : n < 2147483648) : XC (d + 1) 31 [.ref a, .int (w n)] (mk S I L R G) Q ↔ Q (.inl (some (.int (w (slot n * 100))))) (mk S I L R G) := by
  obtain ⟨g0, g1, g2, g3, g4, g5⟩ := h
  simp (disch := omega) only [q_31_0, q_31_1, q_31_2, q_31_5, q_31_7, q_31_8, q_31_e, va_rf_s, bz_0, bz_1, bz_ok, bb_ok, Nat.add_assoc, w_lt, w_add, w_sub, w_mul, w_div, em_def, w_eq, w_inT, ↓ilt_t, ↓ilt_f, ↓ieq_t, ↓ieq_f, ntT, w_b, w_ix, kx_v, kx_n, kl_n, kl_i, kl_r, kl_o, inA_i, inA_s, inA_b, inA_z, inA_l, inA_0, inA_4, inA_5, inA_6, inA_7, inA_8, inA_9, inA_10, al_0, al_1, al_2, al_4, al_5, al_98, bsP_2, bsP_3, wr_same, wr_wr, wr_ne, up_same, up_ne, Nat.reduceAdd, Int.reduceAdd, Int.reduceSub, Int.reduceMul, Int.reduceLT, Int.reduceLE, Int.reduceEq, Int.reduceNeg, Int.reduceToNat, Nat.reduceLT, Nat.reduceLeDiff, Nat.reduceEqDiff, ↓reduceIte, true_and, and_true, not_true_eq_false, not_false_eq_true, eq_self, or_true, true_or, or_false, false_or, if_true, if_false, Int.toNat_natCast, w_ite, Nat.add_zero, reduceCtorEq, ne_eq, sp_27, g0]
theorem sp_32 (h : MemoS S a) (h1 : -2147483648 ≤ n) (h2 : n < 2147483648) (h3 : gi I (a + 2) (sl n) = n) (h4 : 0 ≤ gi I (a + 3) (sl n)) (h5 : gi I (a + 3) (sl n) ≤ 100) : XC (d + 1) 32 [.ref a, .int (w n)] (mk S I L R G) Q ↔ Q (.inl (some (.int (w (gi I (a + 3) (sl n)))))) (mk S I L R G) := by
  obtain ⟨g0, g1, g2, g3, g4, g5⟩ := h
  have hb := slot_bd n
  have hI := gi_w I
  simp (disch := omega) only [q_32_0, q_32_1, q_32_2, q_32_5, q_32_6, q_32_7, q_32_10, q_32_11, q_32_12, q_32_13, q_32_16, q_32_17, q_32_20, q_32_21, q_32_22, q_32_25, q_32_26, q_32_29, q_32_30, q_32_31, q_32_33, q_32_36, q_32_39, q_32_40, q_32_e, va_rf_s, bz_0, bz_1, bz_ok, bb_ok, Nat.add_assoc, w_lt, w_add, w_sub, w_mul, w_div, em_def, w_eq, w_inT, ↓ilt_t, ↓ilt_f, ↓ieq_t, ↓ieq_f, ntT, w_b, w_ix, kx_v, kx_n, kl_n, kl_i, kl_r, kl_o, inA_i, inA_s, inA_b, inA_z, inA_l, inA_0, inA_4, inA_5, inA_6, inA_7, inA_8, inA_9, inA_10, al_0, al_1, al_2, al_4, al_5, al_98, bsP_2, bsP_3, wr_same, wr_wr, wr_ne, up_same, up_ne, Nat.reduceAdd, Int.reduceAdd, Int.reduceSub, Int.reduceMul, Int.reduceLT, Int.reduceLE, Int.reduceEq, Int.reduceNeg, Int.reduceToNat, Nat.reduceLT, Nat.reduceLeDiff, Nat.reduceEqDiff, ↓reduceIte, true_and, and_true, not_true_eq_false, not_false_eq_true, eq_self, or_true, true_or, or_false, false_or, if_true, if_false, Int.toNat_natCast, w_ite, Nat.add_zero, reduceCtorEq, ne_eq, sp_27, g0, g2, g3, sl_w, hI, h3]
  split
  · rfl
  · rw [show gi I (a + 3) (sl n) = 0 by omega]
/-- of a silent one: none -/
theorem sp_32n (h : MemoS S a) (h1 : -2147483648 ≤ n) (h2 : n < 2147483648) (h3 : gi I (a + 3) (sl n) = -1) : XC (d + 1) 32 [.ref a, .int (w n)] (mk S I L R G) Q ↔ Q (.inl (some (.int (w 0)))) (mk S I L R G) := by
  obtain ⟨g0, g1, g2, g3, g4, g5⟩ := h
  have hb := slot_bd n
  have hI := gi_w I
  have b1 := gi_bd I (a + 2) (sl n)
  simp (disch := omega) only [q_32_0, q_32_1, q_32_2, q_32_5, q_32_6, q_32_7, q_32_10, q_32_11, q_32_12, q_32_13, q_32_16, q_32_17, q_32_20, q_32_21, q_32_22, q_32_25, q_32_26, q_32_29, q_32_30, q_32_31, q_32_33, q_32_36, q_32_39, q_32_40, q_32_e, va_rf_s, bz_0, bz_1, bz_ok, bb_ok, Nat.add_assoc, w_lt, w_add, w_sub, w_mul, w_div, em_def, w_eq, w_inT, ↓ilt_t, ↓ilt_f, ↓ieq_t, ↓ieq_f, ntT, w_b, w_ix, kx_v, kx_n, kl_n, kl_i, kl_r, kl_o, inA_i, inA_s, inA_b, inA_z, inA_l, inA_0, inA_4, inA_5, inA_6, inA_7, inA_8, inA_9, inA_10, al_0, al_1, al_2, al_4, al_5, al_98, bsP_2, bsP_3, wr_same, wr_wr, wr_ne, up_same, up_ne, Nat.reduceAdd, Int.reduceAdd, Int.reduceSub, Int.reduceMul, Int.reduceLT, Int.reduceLE, Int.reduceEq, Int.reduceNeg, Int.reduceToNat, Nat.reduceLT, Nat.reduceLeDiff, Nat.reduceEqDiff, ↓reduceIte, true_and, and_true, not_true_eq_false, not_false_eq_true, eq_self, or_true, true_or, or_false, false_or, if_true, if_false, Int.toNat_natCast, w_ite, Nat.add_zero, reduceCtorEq, ne_eq, sp_27, g0, g2, g3, sl_w, hI, h3]
  split <;> rfl
theorem sp_33 (h : MemoS S a) (h1 : -2147483648 ≤ n) (h2 : n < 2147483648) : XC (d + 1) 33 [.ref a, .int (w n)] (mk S I L R G) Q ↔ Q (.inl (some (.int (w (gi I (a + 4) (sl n)))))) (mk S I L R G) := by
  obtain ⟨g0, g1, g2, g3, g4, g5⟩ := h
  have hb := slot_bd n
  have hI := gi_w I
  simp (disch := omega) only [q_33_0, q_33_1, q_33_4, q_33_5, q_33_6, q_33_9, q_33_10, q_33_e, va_rf_s, bz_0, bz_1, bz_ok, bb_ok, Nat.add_assoc, w_lt, w_add, w_sub, w_mul, w_div, em_def, w_eq, w_inT, ↓ilt_t, ↓ilt_f, ↓ieq_t, ↓ieq_f, ntT, w_b, w_ix, kx_v, kx_n, kl_n, kl_i, kl_r, kl_o, inA_i, inA_s, inA_b, inA_z, inA_l, inA_0, inA_4, inA_5, inA_6, inA_7, inA_8, inA_9, inA_10, al_0, al_1, al_2, al_4, al_5, al_98, bsP_2, bsP_3, wr_same, wr_wr, wr_ne, up_same, up_ne, Nat.reduceAdd, Int.reduceAdd, Int.reduceSub, Int.reduceMul, Int.reduceLT, Int.reduceLE, Int.reduceEq, Int.reduceNeg, Int.reduceToNat, Nat.reduceLT, Nat.reduceLeDiff, Nat.reduceEqDiff, ↓reduceIte, true_and, and_true, not_true_eq_false, not_false_eq_true, eq_self, or_true, true_or, or_false, false_or, if_true, if_false, Int.toNat_natCast, w_ite, Nat.add_zero, reduceCtorEq, ne_eq, sp_27, g0, g4, sl_w, hI]
theorem sp_34 (h : MemoS S a) (h1 : 0 ≤ n) (h2 : n < 2147483648) : XC (d + 1) 34 [.ref a, .int (w n)] (mk S I L R G) Q ↔ Q (.inl none) (mk S (wr (wr I (a + 2) (up (I (a + 2)) (sl n) (w n))) (a + 3) (up (I (a + 3)) (sl n) (w (-1)))) L R G) := by
  obtain ⟨g0, g1, g2, g3, g4, g5⟩ := h
  have hb := slot_bd n
  simp (disch := omega) only [q_34_0, q_34_1, q_34_4, q_34_5, q_34_6, q_34_9, q_34_10, q_34_11, q_34_14, q_34_15, q_34_16, q_34_17, q_34_18, q_34_21, q_34_22, q_34_23, q_34_24, q_34_e, va_rf_s, bz_0, bz_1, bz_ok, bb_ok, Nat.add_assoc, w_lt, w_add, w_sub, w_mul, w_div, em_def, w_eq, w_inT, ↓ilt_t, ↓ilt_f, ↓ieq_t, ↓ieq_f, ntT, w_b, w_ix, kx_v, kx_n, kl_n, kl_i, kl_r, kl_o, inA_i, inA_s, inA_b, inA_z, inA_l, inA_0, inA_4, inA_5, inA_6, inA_7, inA_8, inA_9, inA_10, al_0, al_1, al_2, al_4, al_5, al_98, bsP_2, bsP_3, wr_same, wr_wr, wr_ne, up_same, up_ne, Nat.reduceAdd, Int.reduceAdd, Int.reduceSub, Int.reduceMul, Int.reduceLT, Int.reduceLE, Int.reduceEq, Int.reduceNeg, Int.reduceToNat, Nat.reduceLT, Nat.reduceLeDiff, Nat.reduceEqDiff, ↓reduceIte, true_and, and_true, not_true_eq_false, not_false_eq_true, eq_self, or_true, true_or, or_false, false_or, if_true, if_false, Int.toNat_natCast, w_ite, Nat.add_zero, reduceCtorEq, ne_eq, sp_27, g0, g2, g3, sl_w]
end

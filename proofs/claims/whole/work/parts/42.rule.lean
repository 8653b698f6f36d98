/-! a rule's object and its methods -/
def d0 : It := (0, 0, [])
def pack : List Int → Int
  | [] => 0
  | b :: r => b + 256 * pack r
theorem pack_bd : ∀ (s : List Int), (∀ b ∈ s, 0 ≤ b ∧ b < 128) → 0 ≤ pack s ∧ 2 * pack s < 256 ^ s.length
  | [], _ => ⟨by decide, by decide⟩
  | b :: r, h => by
    have h1 := h b (List.mem_cons_self ..)
    have h2 := pack_bd r (fun x hx => h x (List.mem_cons_of_mem _ hx))
    unfold pack
    rw [List.length_cons, Int.pow_succ]
    omega
theorem pack_63 {s : List Int} (h : ∀ b ∈ s, 0 ≤ b ∧ b < 128) (hl : s.length ≤ 8) : 0 ≤ pack s ∧ pack s < 9223372036854775808 := by
  obtain ⟨h1, h2⟩ := pack_bd s h
  refine ⟨h1, ?_⟩
  have : (256 : Int) ^ s.length ≤ 256 ^ 8 := by
    have hn : (256 : Nat) ^ s.length ≤ 256 ^ 8 := Nat.pow_le_pow_right (by decide) hl
    have := Int.ofNat_le.mpr hn
    simpa using this
  have e : (256 : Int) ^ 8 = 18446744073709551616 := by decide
  omega
theorem pack_get : ∀ (s : List Int) (k : Nat), (∀ b ∈ s, 0 ≤ b ∧ b < 128) → k < s.length → pack s / 256 ^ k % 256 = s.getD k 0
  | [], k, _, hk => nomatch hk
  | b :: r, 0, h, _ => by
    have h1 := h b (List.mem_cons_self ..)
    show (b + 256 * pack r) / 1 % 256 = b
    omega
  | b :: r, k + 1, h, hk => by
    have h1 := h b (List.mem_cons_self ..)
    have h2 := pack_get r k (fun x hx => h x (List.mem_cons_of_mem _ hx)) (by simpa using hk)
    show (b + 256 * pack r) / 256 ^ (k + 1) % 256 = r.getD k 0
    rw [← h2, Int.pow_succ, Int.mul_comm (256 ^ k) 256, ← Int.ediv_ediv_of_nonneg (by decide)]
    congr 2
    omega
theorem w_u64 (X : UInt64) : X.toInt64.toInt32 = w X.toNat := by
  have e : X.toInt64 = Int64.ofInt X.toNat := by
    apply Int64.toBitVec_inj.mp
    show X.toBitVec = BitVec.ofInt 64 X.toNat
    rw [BitVec.ofInt_natCast]
    apply BitVec.eq_of_toNat_eq
    rw [BitVec.toNat_ofNat]
    exact (Nat.mod_eq_of_lt X.toNat_lt).symm
  rw [e]
  exact Int64.toInt32_ofInt
theorem w_shr {p : Int} {k : Nat} (h1 : 0 ≤ p) (h2 : p < 9223372036854775808) (hk : k < 8) : (((wl p).toUInt64 >>> ((w (8 * k)).toInt64.toUInt64 &&& Int64.toUInt64 63)).toInt64).toInt32 &&& w 255 = w (p / 256 ^ k % 256) := by
  rw [w_u64, w_255]
  congr 1
  have e1 : (wl p).toUInt64.toNat = p.toNat := by
    show (BitVec.ofInt 64 p).toNat = _
    rw [BitVec.toNat_ofInt]
    show (p % 18446744073709551616).toNat = _
    rw [Int.emod_eq_of_lt h1 (by omega)]
  have e2 : ((w (8 * k)).toInt64.toUInt64 &&& Int64.toUInt64 63).toNat % 64 = 8 * k := by
    match k, hk with
    | 0, _ => decide
    | 1, _ => decide
    | 2, _ => decide
    | 3, _ => decide
    | 4, _ => decide
    | 5, _ => decide
    | 6, _ => decide
    | 7, _ => decide
    | k + 8, h => omega
  rw [UInt64.toNat_shiftRight, e1, e2, Nat.shiftRight_eq_div_pow, Nat.pow_mul]
  show ((p.toNat / 256 ^ k : Nat) : Int) % 256 = _
  rw [Int.natCast_ediv, Int.natCast_pow, Int.toNat_of_nonneg h1]
  rfl
/-- a rule's object at a cell -/
def RuleAt (S : SH) (I : MI) (L : ML) (r : Nat) (ρ : Rl) : Prop :=
  S r = some (.inr 6) ∧ S (r + 1) = some (.inl (0, ρ.2.2.2.2.length)) ∧ S (r + 2) = some (.inl (0, ρ.2.2.2.2.length)) ∧ S (r + 3) = some (.inl (1, ρ.2.2.2.2.length)) ∧
  I r 0 = w ρ.1 ∧ I r 1 = w ρ.2.1 ∧ I r 2 = w ρ.2.2.1 ∧ I r 3 = w ρ.2.2.2.1 ∧
  (∀ i, i < ρ.2.2.2.2.length → I (r + 1) i = w (ρ.2.2.2.2.getD i d0).1 ∧ I (r + 2) i = w (ρ.2.2.2.2.getD i d0).2.1 ∧ L (r + 3) i = wl (pack (ρ.2.2.2.2.getD i d0).2.2)) ∧ rlOk ρ
section
variable {d : Nat} {Q : XO → Hp → Prop} {S : SH} {I : MI} {L : ML} {R : MR} {G : MG} {A : Hp}
variable {r : Nat} {ρ : Rl}
theorem sp_55 (h : RuleAt S I L r ρ) : XC d 55 [.ref r] (mk S I L R G) Q ↔ Q (.inl (some (.int (w ρ.2.2.2.2.length)))) (mk S I L R G) := by
  obtain ⟨h0, h1, h2, h3, -⟩ := h
  simp (disch := omega) only [q_55_0, q_55_1, q_55_4, q_55_5, q_55_e, va_rf_s, bz_0, bz_1, bz_ok, bb_ok, Nat.add_assoc, w_lt, w_add, w_sub, w_mul, w_div, em_def, w_eq, w_inT, ↓ilt_t, ↓ilt_f, ↓ieq_t, ↓ieq_f, ntT, w_b, w_ix, kx_v, kx_n, kl_n, kl_i, kl_r, kl_o, inA_i, inA_s, inA_b, inA_z, inA_l, inA_0, inA_4, inA_5, inA_6, inA_7, inA_8, inA_9, inA_10, al_0, al_1, al_2, al_4, al_5, al_98, bsP_2, bsP_3, wr_same, wr_wr, wr_ne, up_same, up_ne, Nat.reduceAdd, Int.reduceAdd, Int.reduceSub, Int.reduceMul, Int.reduceLT, Int.reduceLE, Int.reduceEq, Int.reduceNeg, Int.reduceToNat, Nat.reduceLT, Nat.reduceLeDiff, Nat.reduceEqDiff, ↓reduceIte, true_and, and_true, not_true_eq_false, not_false_eq_true, eq_self, or_true, true_or, or_false, false_or, if_true, if_false, Int.toNat_natCast, w_ite, Nat.add_zero, reduceCtorEq, ne_eq, h0, h1, h2, h3]
theorem sp_56 (h : RuleAt S I L r ρ) {n : Int} (hn : 0 ≤ n) (hn2 : n ≤ 999999999) : XC d 56 [.ref r, .int (w n)] (mk S I L R G) Q ↔ Q (.inl (some (.int (bz (rl_fit ρ n))))) (mk S I L R G) := by
  obtain ⟨h0, h1, h2, h3, h4, h5, h6, h7, -, h8, h9, h10, h11, h12, h13, h14, -⟩ := h
  have m1 := Int.emod_nonneg n (show ρ.2.2.1 ≠ 0 by omega)
  have m2 := Int.emod_lt_of_pos n (show 0 < ρ.2.2.1 by omega)
  simp (disch := omega) only [q_56_0, q_56_1, q_56_2, q_56_5, q_56_8, q_56_9, q_56_10, q_56_13, q_56_16, q_56_17, q_56_20, q_56_23, q_56_24, q_56_25, q_56_28, q_56_29, q_56_30, q_56_33, q_56_36, q_56_37, q_56_40, q_56_41, q_56_e, va_rf_s, bz_0, bz_1, bz_ok, bb_ok, Nat.add_assoc, w_lt, w_add, w_sub, w_mul, w_div, em_def, w_eq, w_inT, ↓ilt_t, ↓ilt_f, ↓ieq_t, ↓ieq_f, ntT, w_b, w_ix, kx_v, kx_n, kl_n, kl_i, kl_r, kl_o, inA_i, inA_s, inA_b, inA_z, inA_l, inA_0, inA_4, inA_5, inA_6, inA_7, inA_8, inA_9, inA_10, al_0, al_1, al_2, al_4, al_5, al_98, bsP_2, bsP_3, wr_same, wr_wr, wr_ne, up_same, up_ne, Nat.reduceAdd, Int.reduceAdd, Int.reduceSub, Int.reduceMul, Int.reduceLT, Int.reduceLE, Int.reduceEq, Int.reduceNeg, Int.reduceToNat, Nat.reduceLT, Nat.reduceLeDiff, Nat.reduceEqDiff, ↓reduceIte, true_and, and_true, not_true_eq_false, not_false_eq_true, eq_self, or_true, true_or, or_false, false_or, if_true, if_false, Int.toNat_natCast, w_ite, Nat.add_zero, reduceCtorEq, ne_eq, h0, h1, h2, h3, h4, h5, h6, h7]
  unfold rl_fit bz
  by_cases a1 : n < ρ.1
  · simp [a1, Int.not_le.mpr a1]
  · by_cases a2 : ρ.2.1 < n
    · simp [a1, a2, Int.not_le.mpr a2]
    · have a3 : 0 < ρ.2.2.1 := by omega
      have a4 : ρ.2.2.1 ≠ 0 := by omega
      simp [a1, a2, Int.not_lt.mp a1, Int.not_lt.mp a2]
      split <;> rfl
theorem itOk_get (h : rlOk ρ) {i : Nat} (hi : i < ρ.2.2.2.2.length) : itOk (ρ.2.2.2.2.getD i d0) := by
  rw [List.getD_eq_getElem?_getD, List.getElem?_eq_getElem hi]
  exact h.2.2.2.2.2.2.2.2.2 _ (List.getElem_mem hi)
theorem sp_57 (h : RuleAt S I L r ρ) {i : Nat} (hi : i < ρ.2.2.2.2.length) : XC d 57 [.ref r, .int (w i)] (mk S I L R G) Q ↔ Q (.inl (some (.int (w (ρ.2.2.2.2.getD i d0).1)))) (mk S I L R G) := by
  obtain ⟨h0, h1, h2, h3, h4, h5, h6, h7, h8, h9⟩ := h
  have hl := h9.2.2.2.2.2.2.2.2.1
  simp (disch := omega) only [q_57_0, q_57_1, q_57_4, q_57_5, q_57_6, q_57_9, q_57_10, q_57_13, q_57_14, q_57_17, q_57_18, q_57_19, q_57_22, q_57_23, q_57_e, va_rf_s, bz_0, bz_1, bz_ok, bb_ok, Nat.add_assoc, w_lt, w_add, w_sub, w_mul, w_div, em_def, w_eq, w_inT, ↓ilt_t, ↓ilt_f, ↓ieq_t, ↓ieq_f, ntT, w_b, w_ix, kx_v, kx_n, kl_n, kl_i, kl_r, kl_o, inA_i, inA_s, inA_b, inA_z, inA_l, inA_0, inA_4, inA_5, inA_6, inA_7, inA_8, inA_9, inA_10, al_0, al_1, al_2, al_4, al_5, al_98, bsP_2, bsP_3, wr_same, wr_wr, wr_ne, up_same, up_ne, Nat.reduceAdd, Int.reduceAdd, Int.reduceSub, Int.reduceMul, Int.reduceLT, Int.reduceLE, Int.reduceEq, Int.reduceNeg, Int.reduceToNat, Nat.reduceLT, Nat.reduceLeDiff, Nat.reduceEqDiff, ↓reduceIte, true_and, and_true, not_true_eq_false, not_false_eq_true, eq_self, or_true, true_or, or_false, false_or, if_true, if_false, Int.toNat_natCast, w_ite, Nat.add_zero, reduceCtorEq, ne_eq, h0, h1, h2, h3, (h8 i hi).1]
theorem sp_58 (h : RuleAt S I L r ρ) {i : Nat} (hi : i < ρ.2.2.2.2.length) : XC d 58 [.ref r, .int (w i)] (mk S I L R G) Q ↔ Q (.inl (some (.int (w (ρ.2.2.2.2.getD i d0).2.1)))) (mk S I L R G) := by
  obtain ⟨h0, h1, h2, h3, h4, h5, h6, h7, h8, h9⟩ := h
  have hl := h9.2.2.2.2.2.2.2.2.1
  simp (disch := omega) only [q_58_0, q_58_1, q_58_4, q_58_5, q_58_6, q_58_9, q_58_10, q_58_13, q_58_14, q_58_17, q_58_18, q_58_19, q_58_22, q_58_23, q_58_e, va_rf_s, bz_0, bz_1, bz_ok, bb_ok, Nat.add_assoc, w_lt, w_add, w_sub, w_mul, w_div, em_def, w_eq, w_inT, ↓ilt_t, ↓ilt_f, ↓ieq_t, ↓ieq_f, ntT, w_b, w_ix, kx_v, kx_n, kl_n, kl_i, kl_r, kl_o, inA_i, inA_s, inA_b, inA_z, inA_l, inA_0, inA_4, inA_5, inA_6, inA_7, inA_8, inA_9, inA_10, al_0, al_1, al_2, al_4, al_5, al_98, bsP_2, bsP_3, wr_same, wr_wr, wr_ne, up_same, up_ne, Nat.reduceAdd, Int.reduceAdd, Int.reduceSub, Int.reduceMul, Int.reduceLT, Int.reduceLE, Int.reduceEq, Int.reduceNeg, Int.reduceToNat, Nat.reduceLT, Nat.reduceLeDiff, Nat.reduceEqDiff, ↓reduceIte, true_and, and_true, not_true_eq_false, not_false_eq_true, eq_self, or_true, true_or, or_false, false_or, if_true, if_false, Int.toNat_natCast, w_ite, Nat.add_zero, reduceCtorEq, ne_eq, h0, h1, h2, h3, (h8 i hi).2.1]
theorem sp_60 (h : RuleAt S I L r ρ) {i : Nat} (hi : i < ρ.2.2.2.2.length) {n : Int} (hn : 0 ≤ n) (hn2 : n ≤ 999999999) : XC (d + 1) 60 [.ref r, .int (w i), .int (w n)] (mk S I L R G) Q ↔ Q (.inl (some (.int (bz (decide ((ρ.2.2.2.2.getD i d0).1 = 2) && decide (n % (ρ.2.2.2.2.getD i d0).2.1 = 0)))))) (mk S I L R G) := by
  have hok := itOk_get h.2.2.2.2.2.2.2.2.2 hi
  have h0 := h.1
  have hr : -2147483648 ≤ (ρ.2.2.2.2.getD i d0).1 ∧ (ρ.2.2.2.2.getD i d0).1 < 2147483648 ∧ 0 ≤ (ρ.2.2.2.2.getD i d0).2.1 ∧ (ρ.2.2.2.2.getD i d0).2.1 < 2147483648 ∧ ((ρ.2.2.2.2.getD i d0).1 = 2 → 0 < (ρ.2.2.2.2.getD i d0).2.1) := by
    rcases hok with ⟨e1, e2, e3, e4, -⟩ | ⟨e1, e2, e3, e4⟩ | ⟨e1, e2⟩ <;> omega
  simp (disch := omega) only [q_60_0, q_60_1, q_60_2, q_60_5, q_60_6, q_60_7, q_60_8, q_60_11, q_60_12, q_60_15, q_60_16, q_60_19, q_60_20, q_60_21, q_60_22, q_60_25, q_60_26, q_60_29, q_60_30, q_60_e, va_rf_s, bz_0, bz_1, bz_ok, bb_ok, Nat.add_assoc, w_lt, w_add, w_sub, w_mul, w_div, em_def, w_eq, w_inT, ↓ilt_t, ↓ilt_f, ↓ieq_t, ↓ieq_f, ntT, w_b, w_ix, kx_v, kx_n, kl_n, kl_i, kl_r, kl_o, inA_i, inA_s, inA_b, inA_z, inA_l, inA_0, inA_4, inA_5, inA_6, inA_7, inA_8, inA_9, inA_10, al_0, al_1, al_2, al_4, al_5, al_98, bsP_2, bsP_3, wr_same, wr_wr, wr_ne, up_same, up_ne, Nat.reduceAdd, Int.reduceAdd, Int.reduceSub, Int.reduceMul, Int.reduceLT, Int.reduceLE, Int.reduceEq, Int.reduceNeg, Int.reduceToNat, Nat.reduceLT, Nat.reduceLeDiff, Nat.reduceEqDiff, ↓reduceIte, true_and, and_true, not_true_eq_false, not_false_eq_true, eq_self, or_true, true_or, or_false, false_or, if_true, if_false, Int.toNat_natCast, w_ite, Nat.add_zero, reduceCtorEq, ne_eq, sp_57 h hi, sp_58 h hi, h0]
  generalize ρ.2.2.2.2.getD i d0 = it at hr ⊢
  unfold bz
  by_cases a1 : it.1 = 2
  · have a2 := hr.2.2.2.2 a1
    have a3 : it.2.1 ≠ 0 := by omega
    have m1 := Int.emod_nonneg n a3
    have m2 := Int.emod_lt_of_pos n a2
    simp (disch := omega) only [va_rf_s, bz_0, bz_1, bz_ok, bb_ok, Nat.add_assoc, w_lt, w_add, w_sub, w_mul, w_div, em_def, w_eq, w_inT, ↓ilt_t, ↓ilt_f, ↓ieq_t, ↓ieq_f, ntT, w_b, w_ix, kx_v, kx_n, kl_n, kl_i, kl_r, kl_o, inA_i, inA_s, inA_b, inA_z, inA_l, inA_0, inA_4, inA_5, inA_6, inA_7, inA_8, inA_9, inA_10, al_0, al_1, al_2, al_4, al_5, al_98, bsP_2, bsP_3, wr_same, wr_wr, wr_ne, up_same, up_ne, Nat.reduceAdd, Int.reduceAdd, Int.reduceSub, Int.reduceMul, Int.reduceLT, Int.reduceLE, Int.reduceEq, Int.reduceNeg, Int.reduceToNat, Nat.reduceLT, Nat.reduceLeDiff, Nat.reduceEqDiff, ↓reduceIte, true_and, and_true, not_true_eq_false, not_false_eq_true, eq_self, or_true, true_or, or_false, false_or, if_true, if_false, Int.toNat_natCast, w_ite, Nat.add_zero, reduceCtorEq, ne_eq, a1, a2, a3]
    by_cases a4 : n % it.2.1 = 0
    · simp [a4]
    · simp [a4]
  · simp [a1]
theorem sp_61 (h : RuleAt S I L r ρ) {i : Nat} (hi : i < ρ.2.2.2.2.length) {n q : Int} (hn : 0 ≤ n) (hn2 : n ≤ 999999999) (hk : asks (ρ.2.2.2.2.getD i d0) n q) : XC (d + 1) 61 [.ref r, .int (w i), .int (w n)] (mk S I L R G) Q ↔ Q (.inl (some (.int (w q)))) (mk S I L R G) := by
  have hok := itOk_get h.2.2.2.2.2.2.2.2.2 hi
  have h0 := h.1
  obtain ⟨hk1, hk2, hk3⟩ := hk
  have hr : 1 ≤ (ρ.2.2.2.2.getD i d0).1 ∧ (ρ.2.2.2.2.getD i d0).1 ≤ 5 ∧ 1 ≤ (ρ.2.2.2.2.getD i d0).2.1 ∧ (ρ.2.2.2.2.getD i d0).2.1 ≤ 999999 := by
    rcases hok with ⟨e1, e2, e3, e4, -⟩ | ⟨e1, e2, e3, e4⟩ | ⟨e1, e2⟩
    · exact absurd e1 hk2
    · exact ⟨e1, e2, e3, e4⟩
    · exact absurd e1 hk1
  simp (disch := omega) only [q_61_0, q_61_1, q_61_2, q_61_5, q_61_6, q_61_7, q_61_8, q_61_11, q_61_12, q_61_13, q_61_14, q_61_15, q_61_18, q_61_48, q_61_49, q_61_50, q_61_51, q_61_52, q_61_53, q_61_54, q_61_55, q_61_56, q_61_57, q_61_58, q_61_59, q_61_60, q_61_61, q_61_62, q_61_63, q_61_e, va_rf_s, bz_0, bz_1, bz_ok, bb_ok, Nat.add_assoc, w_lt, w_add, w_sub, w_mul, w_div, em_def, w_eq, w_inT, ↓ilt_t, ↓ilt_f, ↓ieq_t, ↓ieq_f, ntT, w_b, w_ix, kx_v, kx_n, kl_n, kl_i, kl_r, kl_o, inA_i, inA_s, inA_b, inA_z, inA_l, inA_0, inA_4, inA_5, inA_6, inA_7, inA_8, inA_9, inA_10, al_0, al_1, al_2, al_4, al_5, al_98, bsP_2, bsP_3, wr_same, wr_wr, wr_ne, up_same, up_ne, Nat.reduceAdd, Int.reduceAdd, Int.reduceSub, Int.reduceMul, Int.reduceLT, Int.reduceLE, Int.reduceEq, Int.reduceNeg, Int.reduceToNat, Nat.reduceLT, Nat.reduceLeDiff, Nat.reduceEqDiff, ↓reduceIte, true_and, and_true, not_true_eq_false, not_false_eq_true, eq_self, or_true, true_or, or_false, false_or, if_true, if_false, Int.toNat_natCast, w_ite, Nat.add_zero, reduceCtorEq, ne_eq, sp_57 h hi, sp_58 h hi, h0, w_toInt]
  generalize ρ.2.2.2.2.getD i d0 = it at hr hk3 ⊢
  unfold want at hk3
  have a3 : it.2.1 ≠ 0 := by omega
  have hc : it.1 = 1 ∨ it.1 = 2 ∨ it.1 = 3 ∨ it.1 = 4 ∨ it.1 = 5 := by omega
  rcases hc with e | e | e | e | e
  · rw [if_pos e] at hk3
    rw [e, show swT [48, 52, 52, 56] 60 1 1 = 48 from rfl]
    cases hk3
    simp (disch := omega) only [q_61_0, q_61_1, q_61_2, q_61_5, q_61_6, q_61_7, q_61_8, q_61_11, q_61_12, q_61_13, q_61_14, q_61_15, q_61_18, q_61_48, q_61_49, q_61_50, q_61_51, q_61_52, q_61_53, q_61_54, q_61_55, q_61_56, q_61_57, q_61_58, q_61_59, q_61_60, q_61_61, q_61_62, q_61_63, q_61_e, va_rf_s, bz_0, bz_1, bz_ok, bb_ok, Nat.add_assoc, w_lt, w_add, w_sub, w_mul, w_div, em_def, w_eq, w_inT, ↓ilt_t, ↓ilt_f, ↓ieq_t, ↓ieq_f, ntT, w_b, w_ix, kx_v, kx_n, kl_n, kl_i, kl_r, kl_o, inA_i, inA_s, inA_b, inA_z, inA_l, inA_0, inA_4, inA_5, inA_6, inA_7, inA_8, inA_9, inA_10, al_0, al_1, al_2, al_4, al_5, al_98, bsP_2, bsP_3, wr_same, wr_wr, wr_ne, up_same, up_ne, Nat.reduceAdd, Int.reduceAdd, Int.reduceSub, Int.reduceMul, Int.reduceLT, Int.reduceLE, Int.reduceEq, Int.reduceNeg, Int.reduceToNat, Nat.reduceLT, Nat.reduceLeDiff, Nat.reduceEqDiff, ↓reduceIte, true_and, and_true, not_true_eq_false, not_false_eq_true, eq_self, or_true, true_or, or_false, false_or, if_true, if_false, Int.toNat_natCast, w_ite, Nat.add_zero, reduceCtorEq, ne_eq, a3]
  · rw [if_neg (by omega), if_pos e] at hk3
    rw [e, show swT [48, 52, 52, 56] 60 1 2 = 52 from rfl]
    split at hk3
    · cases hk3
    · cases hk3
      simp (disch := omega) only [q_61_0, q_61_1, q_61_2, q_61_5, q_61_6, q_61_7, q_61_8, q_61_11, q_61_12, q_61_13, q_61_14, q_61_15, q_61_18, q_61_48, q_61_49, q_61_50, q_61_51, q_61_52, q_61_53, q_61_54, q_61_55, q_61_56, q_61_57, q_61_58, q_61_59, q_61_60, q_61_61, q_61_62, q_61_63, q_61_e, va_rf_s, bz_0, bz_1, bz_ok, bb_ok, Nat.add_assoc, w_lt, w_add, w_sub, w_mul, w_div, em_def, w_eq, w_inT, ↓ilt_t, ↓ilt_f, ↓ieq_t, ↓ieq_f, ntT, w_b, w_ix, kx_v, kx_n, kl_n, kl_i, kl_r, kl_o, inA_i, inA_s, inA_b, inA_z, inA_l, inA_0, inA_4, inA_5, inA_6, inA_7, inA_8, inA_9, inA_10, al_0, al_1, al_2, al_4, al_5, al_98, bsP_2, bsP_3, wr_same, wr_wr, wr_ne, up_same, up_ne, Nat.reduceAdd, Int.reduceAdd, Int.reduceSub, Int.reduceMul, Int.reduceLT, Int.reduceLE, Int.reduceEq, Int.reduceNeg, Int.reduceToNat, Nat.reduceLT, Nat.reduceLeDiff, Nat.reduceEqDiff, ↓reduceIte, true_and, and_true, not_true_eq_false, not_false_eq_true, eq_self, or_true, true_or, or_false, false_or, if_true, if_false, Int.toNat_natCast, w_ite, Nat.add_zero, reduceCtorEq, ne_eq, a3]
  · rw [if_neg (by omega), if_neg (by omega), if_pos e] at hk3
    rw [e, show swT [48, 52, 52, 56] 60 1 3 = 52 from rfl]
    cases hk3
    simp (disch := omega) only [q_61_0, q_61_1, q_61_2, q_61_5, q_61_6, q_61_7, q_61_8, q_61_11, q_61_12, q_61_13, q_61_14, q_61_15, q_61_18, q_61_48, q_61_49, q_61_50, q_61_51, q_61_52, q_61_53, q_61_54, q_61_55, q_61_56, q_61_57, q_61_58, q_61_59, q_61_60, q_61_61, q_61_62, q_61_63, q_61_e, va_rf_s, bz_0, bz_1, bz_ok, bb_ok, Nat.add_assoc, w_lt, w_add, w_sub, w_mul, w_div, em_def, w_eq, w_inT, ↓ilt_t, ↓ilt_f, ↓ieq_t, ↓ieq_f, ntT, w_b, w_ix, kx_v, kx_n, kl_n, kl_i, kl_r, kl_o, inA_i, inA_s, inA_b, inA_z, inA_l, inA_0, inA_4, inA_5, inA_6, inA_7, inA_8, inA_9, inA_10, al_0, al_1, al_2, al_4, al_5, al_98, bsP_2, bsP_3, wr_same, wr_wr, wr_ne, up_same, up_ne, Nat.reduceAdd, Int.reduceAdd, Int.reduceSub, Int.reduceMul, Int.reduceLT, Int.reduceLE, Int.reduceEq, Int.reduceNeg, Int.reduceToNat, Nat.reduceLT, Nat.reduceLeDiff, Nat.reduceEqDiff, ↓reduceIte, true_and, and_true, not_true_eq_false, not_false_eq_true, eq_self, or_true, true_or, or_false, false_or, if_true, if_false, Int.toNat_natCast, w_ite, Nat.add_zero, reduceCtorEq, ne_eq, a3]
  · rw [if_neg (by omega), if_neg (by omega), if_neg (by omega), if_pos e] at hk3
    rw [e, show swT [48, 52, 52, 56] 60 1 4 = 56 from rfl]
    cases hk3
    simp (disch := omega) only [q_61_0, q_61_1, q_61_2, q_61_5, q_61_6, q_61_7, q_61_8, q_61_11, q_61_12, q_61_13, q_61_14, q_61_15, q_61_18, q_61_48, q_61_49, q_61_50, q_61_51, q_61_52, q_61_53, q_61_54, q_61_55, q_61_56, q_61_57, q_61_58, q_61_59, q_61_60, q_61_61, q_61_62, q_61_63, q_61_e, va_rf_s, bz_0, bz_1, bz_ok, bb_ok, Nat.add_assoc, w_lt, w_add, w_sub, w_mul, w_div, em_def, w_eq, w_inT, ↓ilt_t, ↓ilt_f, ↓ieq_t, ↓ieq_f, ntT, w_b, w_ix, kx_v, kx_n, kl_n, kl_i, kl_r, kl_o, inA_i, inA_s, inA_b, inA_z, inA_l, inA_0, inA_4, inA_5, inA_6, inA_7, inA_8, inA_9, inA_10, al_0, al_1, al_2, al_4, al_5, al_98, bsP_2, bsP_3, wr_same, wr_wr, wr_ne, up_same, up_ne, Nat.reduceAdd, Int.reduceAdd, Int.reduceSub, Int.reduceMul, Int.reduceLT, Int.reduceLE, Int.reduceEq, Int.reduceNeg, Int.reduceToNat, Nat.reduceLT, Nat.reduceLeDiff, Nat.reduceEqDiff, ↓reduceIte, true_and, and_true, not_true_eq_false, not_false_eq_true, eq_self, or_true, true_or, or_false, false_or, if_true, if_false, Int.toNat_natCast, w_ite, Nat.add_zero, reduceCtorEq, ne_eq, a3]
  · rw [if_neg (by omega), if_neg (by omega), if_neg (by omega), if_neg (by omega)] at hk3
    rw [e, show swT [48, 52, 52, 56] 60 1 5 = 60 from rfl]
    cases hk3
    simp (disch := omega) only [q_61_0, q_61_1, q_61_2, q_61_5, q_61_6, q_61_7, q_61_8, q_61_11, q_61_12, q_61_13, q_61_14, q_61_15, q_61_18, q_61_48, q_61_49, q_61_50, q_61_51, q_61_52, q_61_53, q_61_54, q_61_55, q_61_56, q_61_57, q_61_58, q_61_59, q_61_60, q_61_61, q_61_62, q_61_63, q_61_e, va_rf_s, bz_0, bz_1, bz_ok, bb_ok, Nat.add_assoc, w_lt, w_add, w_sub, w_mul, w_div, em_def, w_eq, w_inT, ↓ilt_t, ↓ilt_f, ↓ieq_t, ↓ieq_f, ntT, w_b, w_ix, kx_v, kx_n, kl_n, kl_i, kl_r, kl_o, inA_i, inA_s, inA_b, inA_z, inA_l, inA_0, inA_4, inA_5, inA_6, inA_7, inA_8, inA_9, inA_10, al_0, al_1, al_2, al_4, al_5, al_98, bsP_2, bsP_3, wr_same, wr_wr, wr_ne, up_same, up_ne, Nat.reduceAdd, Int.reduceAdd, Int.reduceSub, Int.reduceMul, Int.reduceLT, Int.reduceLE, Int.reduceEq, Int.reduceNeg, Int.reduceToNat, Nat.reduceLT, Nat.reduceLeDiff, Nat.reduceEqDiff, ↓reduceIte, true_and, and_true, not_true_eq_false, not_false_eq_true, eq_self, or_true, true_or, or_false, false_or, if_true, if_false, Int.toNat_natCast, w_ite, Nat.add_zero, reduceCtorEq, ne_eq, a3]
theorem sp_59 (h : RuleAt S I L r ρ) {i k : Nat} (hi : i < ρ.2.2.2.2.length) (h0 : (ρ.2.2.2.2.getD i d0).1 = 0) (hk : k < (ρ.2.2.2.2.getD i d0).2.2.length) : XC d 59 [.ref r, .int (w i), .int (w k)] (mk S I L R G) Q ↔ Q (.inl (some (.int (w ((ρ.2.2.2.2.getD i d0).2.2.getD k 0))))) (mk S I L R G) := by
  obtain ⟨g0, g1, g2, g3, g4, g5, g6, g7, g8, g9⟩ := h
  have hl := g9.2.2.2.2.2.2.2.2.1
  have hok := itOk_get g9 hi
  have hw : ∀ b ∈ (ρ.2.2.2.2.getD i d0).2.2, 0 ≤ b ∧ b < 128 := by
    rcases hok with ⟨-, -, -, -, e⟩ | ⟨e1, -⟩ | ⟨e1, -⟩
    · exact fun b hb => by have := e b hb; omega
    · omega
    · omega
  have h8 : (ρ.2.2.2.2.getD i d0).2.2.length ≤ 8 := by
    rcases hok with ⟨-, -, e, -⟩ | ⟨e1, -⟩ | ⟨e1, -⟩ <;> omega
  have hp := pack_63 hw h8
  simp (disch := omega) only [q_59_0, q_59_1, q_59_4, q_59_5, q_59_6, q_59_9, q_59_10, q_59_13, q_59_14, q_59_17, q_59_18, q_59_20, q_59_23, q_59_25, q_59_26, q_59_27, q_59_30, q_59_31, q_59_32, q_59_34, q_59_35, q_59_36, q_59_37, q_59_38, q_59_41, q_59_42, q_59_e, va_rf_s, bz_0, bz_1, bz_ok, bb_ok, Nat.add_assoc, w_lt, w_add, w_sub, w_mul, w_div, em_def, w_eq, w_inT, ↓ilt_t, ↓ilt_f, ↓ieq_t, ↓ieq_f, ntT, w_b, w_ix, kx_v, kx_n, kl_n, kl_i, kl_r, kl_o, inA_i, inA_s, inA_b, inA_z, inA_l, inA_0, inA_4, inA_5, inA_6, inA_7, inA_8, inA_9, inA_10, al_0, al_1, al_2, al_4, al_5, al_98, bsP_2, bsP_3, wr_same, wr_wr, wr_ne, up_same, up_ne, Nat.reduceAdd, Int.reduceAdd, Int.reduceSub, Int.reduceMul, Int.reduceLT, Int.reduceLE, Int.reduceEq, Int.reduceNeg, Int.reduceToNat, Nat.reduceLT, Nat.reduceLeDiff, Nat.reduceEqDiff, ↓reduceIte, true_and, and_true, not_true_eq_false, not_false_eq_true, eq_self, or_true, true_or, or_false, false_or, if_true, if_false, Int.toNat_natCast, w_ite, Nat.add_zero, reduceCtorEq, ne_eq, g0, g1, g2, g3, (g8 i hi).2.2]
  rw [w_shr hp.1 hp.2 (by omega), pack_get _ _ hw hk]
end

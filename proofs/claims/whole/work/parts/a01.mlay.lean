/-! the model: where all lies; its small methods -/
def MRule (S : SH) (R : MR) (m : Nat) : Prop := S (m + 5) = some (.inl (7, 27)) ∧ ∀ s, s < 27 → R (m + 5) s = some (m + 6 + 31 * s) ∧ S (m + 6 + 31 * s) = some (.inl (6, 30)) ∧ ∀ k, k < 30 → R (m + 6 + 31 * s) k = some (m + 7 + 31 * s + k) ∧ S (m + 7 + 31 * s + k) = some (.inl (0, 17))
def MWord (S : SH) (R : MR) (m : Nat) : Prop := S (m + 843) = some (.inl (10, 27)) ∧ ∀ s, s < 27 → R (m + 843) s = some (m + 844 + 211 * s) ∧ S (m + 844 + 211 * s) = some (.inl (9, 30)) ∧ ∀ k, k < 30 → R (m + 844 + 211 * s) k = some (m + 845 + 211 * s + 7 * k) ∧ S (m + 845 + 211 * s + 7 * k) = some (.inl (8, 6)) ∧ ∀ i, i < 6 → R (m + 845 + 211 * s + 7 * k) i = some (m + 846 + 211 * s + 7 * k + i) ∧ S (m + 846 + 211 * s + 7 * k + i) = some (.inl (2, 8))
def MSay (S : SH) (R : MR) (m : Nat) : Prop := S (m + 6541) = some (.inl (2, 3070)) ∧ S (m + 6542) = some (.inl (0, 31)) ∧ S (m + 6543) = some (.inl (6, 33)) ∧ ∀ i, i < 33 → R (m + 6543) i = some (m + 6544 + i) ∧ S (m + 6544 + i) = some (.inl (0, 4))
def MLaid (S : SH) (m : Nat) : Prop := S (m + 6577) = some (.inl (2, 100100)) ∧ S (m + 6578) = some (.inl (0, 1001)) ∧ S (m + 6579) = some (.inl (0, 1001)) ∧ S (m + 6580) = some (.inl (2, 100100)) ∧ S (m + 6581) = some (.inl (0, 1001)) ∧ S (m + 6582) = some (.inl (0, 1001)) ∧ S (m + 6583) = some (.inl (0, 1001)) ∧ S (m + 6584) = some (.inl (0, 1001))
def MHear (S : SH) (R : MR) (m : Nat) : Prop := S (m + 6585) = some (.inl (2, 400)) ∧ S (m + 6586) = some (.inl (0, 41)) ∧ S (m + 6587) = some (.inl (0, 41)) ∧ S (m + 6588) = some (.inl (6, 40)) ∧ S (m + 6629) = some (.inl (6, 40)) ∧ (∀ i, i < 40 → R (m + 6588) i = some (m + 6589 + i) ∧ S (m + 6589 + i) = some (.inl (0, 41)) ∧ R (m + 6629) i = some (m + 6630 + i) ∧ S (m + 6630 + i) = some (.inl (0, 41))) ∧ S (m + 6670) = some (.inl (0, 41)) ∧ S (m + 6671) = some (.inl (0, 41)) ∧ S (m + 6672) = some (.inl (1, 41))
def MWrd (S : SH) (m : Nat) : Prop := S (m + 6673) = some (.inl (3, 101)) ∧ S (m + 6674) = some (.inl (0, 50052)) ∧ S (m + 6675) = some (.inl (0, 50052)) ∧ S (m + 6676) = some (.inl (0, 50052)) ∧ S (m + 6677) = some (.inl (0, 50052))
def MLay (S : SH) (R : MR) (m : Nat) : Prop := S m = some (.inr 12) ∧ S (m + 1) = some (.inl (0, 2)) ∧ S (m + 2) = some (.inl (0, 400)) ∧ S (m + 3) = some (.inl (0, 27)) ∧ S (m + 4) = some (.inl (0, 12)) ∧ MRule S R m ∧ MWord S R m ∧ MSay S R m ∧ MLaid S m ∧ MHear S R m ∧ MWrd S m
/-- a rule of a state -/
def RuM (I : MI) (m s k : Nat) (ρ : Rl) : Prop := I (m + 7 + 31 * s + k) 0 = w ρ.1 ∧ I (m + 7 + 31 * s + k) 1 = w ρ.2.1 ∧ I (m + 7 + 31 * s + k) 2 = w ρ.2.2.1 ∧ I (m + 7 + 31 * s + k) 3 = w ρ.2.2.2.1 ∧ I (m + 7 + 31 * s + k) 4 = w ρ.2.2.2.2.length ∧ rlOk ρ ∧ ∀ i, i < ρ.2.2.2.2.length → I (m + 7 + 31 * s + k) (5 + 2 * i) = w (ρ.2.2.2.2.getD i d0).1 ∧ I (m + 7 + 31 * s + k) (5 + 2 * i + 1) = w (ρ.2.2.2.2.getD i d0).2.1 ∧ ((ρ.2.2.2.2.getD i d0).1 = 0 → Txt (I (m + 846 + 211 * s + 7 * k + i)) 0 (ρ.2.2.2.2.getD i d0).2.2)
def RsM (I : MI) (m s : Nat) (rs : List Rl) : Prop := I (m + 3) s = w rs.length ∧ rs.length ≤ 30 ∧ ∀ k, k < rs.length → RuM I m s k (rs.getD k rd0)
theorem RuM.congr {I I' : MI} {m s k : Nat} {ρ : Rl} (h : RuM I m s k ρ) (e1 : I' (m + 7 + 31 * s + k) = I (m + 7 + 31 * s + k)) (e2 : ∀ i, i < 6 → I' (m + 846 + 211 * s + 7 * k + i) = I (m + 846 + 211 * s + 7 * k + i)) : RuM I' m s k ρ := by
  unfold RuM
  rw [e1]
  obtain ⟨a1, a2, a3, a4, a5, a6, a7⟩ := h
  have h6 : ρ.2.2.2.2.length ≤ 6 := a6.2.2.2.2.2.2.2.2.1
  exact ⟨a1, a2, a3, a4, a5, a6, fun i hi => ⟨(a7 i hi).1, (a7 i hi).2.1, fun h0 => by rw [e2 i (by omega)]; exact (a7 i hi).2.2 h0⟩⟩
theorem RsM.ok {I : MI} {m s : Nat} {rs : List Rl} (h : RsM I m s rs) : rsOk rs := by
  intro ρ hρ
  obtain ⟨i, hi, rfl⟩ := List.getElem_of_mem hρ
  have := (h.2.2 i hi).2.2.2.2.2.1
  rw [List.getD_eq_getElem?_getD, List.getElem?_eq_getElem hi] at this
  exact this
theorem RsM.congr {I I' : MI} {m s : Nat} {rs : List Rl} (h : RsM I m s rs) (hs : s < 27) (e : ∀ a, m + 3 ≤ a → a < m + 6541 → I' a = I a) : RsM I' m s rs := by
  have h30 := h.2.1
  refine ⟨by rw [e _ (by omega) (by omega)]; exact h.1, h.2.1, fun k hk => (h.2.2 k hk).congr (e _ (by omega) (by omega)) (fun i hi => e _ (by omega) (by omega))⟩
section
variable {d : Nat} {Q : XO → Hp → Prop} {S : SH} {I : MI} {L : ML} {R : MR} {G : MG} {A : Hp}
variable {m : Nat}
theorem MRule.at (h : MRule S R m) {s k : Nat} (hs : s < 27) (hk : k < 30) : ∃ a b, a = m + 6 + 31 * s ∧ b = m + 7 + 31 * s + k ∧ R (m + 5) s = some a ∧ S a = some (.inl (6, 30)) ∧ R a k = some b ∧ S b = some (.inl (0, 17)) :=
  ⟨_, _, rfl, rfl, (h.2 s hs).1, (h.2 s hs).2.1, ((h.2 s hs).2.2 k hk).1, ((h.2 s hs).2.2 k hk).2⟩
theorem MWord.at (h : MWord S R m) {s k i : Nat} (hs : s < 27) (hk : k < 30) (hi : i < 6) : ∃ a b c e, a = m + 844 + 211 * s ∧ b = m + 845 + 211 * s + 7 * k ∧ c = m + 846 + 211 * s + 7 * k + i ∧ e = m + 846 + 211 * s + 7 * k ∧ R (m + 843) s = some a ∧ S a = some (.inl (9, 30)) ∧ R a k = some b ∧ S b = some (.inl (8, 6)) ∧ R b i = some c ∧ S c = some (.inl (2, 8)) :=
  ⟨_, _, _, _, rfl, rfl, rfl, rfl, (h.2 s hs).1, (h.2 s hs).2.1, ((h.2 s hs).2.2 k hk).1, ((h.2 s hs).2.2 k hk).2.1, (((h.2 s hs).2.2 k hk).2.2 i hi).1, (((h.2 s hs).2.2 k hk).2.2 i hi).2⟩
theorem sp_153 (h : S m = some (.inr 12)) : XC d 153 [.ref m] (mk S I L R G) Q ↔ Q (.inl (some (.int (I m 0)))) (mk S I L R G) := by
  simp (disch := omega) only [q_153_0, q_153_1, q_153_4, q_153_e, va_rf_s, bz_0, bz_1, bz_ok, bb_ok, Nat.add_assoc, w_lt, w_add, w_sub, w_mul, w_div, em_def, w_eq, w_inT, ↓ilt_t, ↓ilt_f, ↓ieq_t, ↓ieq_f, ntT, w_b, w_ix, kx_v, kx_n, kl_n, kl_i, kl_r, kl_o, inA_i, inA_s, inA_b, inA_z, inA_l, inA_0, inA_4, inA_5, inA_6, inA_7, inA_8, inA_9, inA_10, al_0, al_1, al_2, al_4, al_5, al_98, bsP_2, bsP_3, wr_same, wr_wr, wr_ne, up_same, up_ne, Nat.reduceAdd, Int.reduceAdd, Int.reduceSub, Int.reduceMul, Int.reduceLT, Int.reduceLE, Int.reduceEq, Int.reduceNeg, Int.reduceToNat, Nat.reduceLT, Nat.reduceLeDiff, Nat.reduceEqDiff, ↓reduceIte, true_and, and_true, not_true_eq_false, not_false_eq_true, eq_self, or_true, true_or, or_false, false_or, if_true, if_false, Int.toNat_natCast, w_ite, Nat.add_zero, reduceCtorEq, ne_eq, h]
theorem sp_154_0 {e r : Int32} (h : S m = some (.inr 12)) (h0 : I m 0 = w 0) : XC d 154 [.ref m, .int (w 0), .int e, .int r] (mk S I L R G) Q ↔ Q (.inl (some (.int (w 0)))) (mk S I L R G) := by
  simp (disch := omega) only [q_154_0, q_154_1, q_154_4, q_154_5, q_154_8, q_154_11, q_154_12, q_154_13, q_154_16, q_154_17, q_154_20, q_154_21, q_154_22, q_154_23, q_154_24, q_154_25, q_154_26, q_154_27, q_154_30, q_154_33, q_154_34, q_154_37, q_154_38, q_154_e, va_rf_s, bz_0, bz_1, bz_ok, bb_ok, Nat.add_assoc, w_lt, w_add, w_sub, w_mul, w_div, em_def, w_eq, w_inT, ↓ilt_t, ↓ilt_f, ↓ieq_t, ↓ieq_f, ntT, w_b, w_ix, kx_v, kx_n, kl_n, kl_i, kl_r, kl_o, inA_i, inA_s, inA_b, inA_z, inA_l, inA_0, inA_4, inA_5, inA_6, inA_7, inA_8, inA_9, inA_10, al_0, al_1, al_2, al_4, al_5, al_98, bsP_2, bsP_3, wr_same, wr_wr, wr_ne, up_same, up_ne, Nat.reduceAdd, Int.reduceAdd, Int.reduceSub, Int.reduceMul, Int.reduceLT, Int.reduceLE, Int.reduceEq, Int.reduceNeg, Int.reduceToNat, Nat.reduceLT, Nat.reduceLeDiff, Nat.reduceEqDiff, ↓reduceIte, true_and, and_true, not_true_eq_false, not_false_eq_true, eq_self, or_true, true_or, or_false, false_or, if_true, if_false, Int.toNat_natCast, w_ite, Nat.add_zero, reduceCtorEq, ne_eq, h, h0]
theorem sp_154_1 {e z : Int} {r : Nat} (h : MLay S R m) (h0 : I m 0 = w 0) (he : e = 1 ∨ e = 2) (hr : r < 2) (hz : I (m + 1) r = w z) : XC d 154 [.ref m, .int (w 1), .int (w e), .int (w r)] (mk S I L R G) Q ↔ Q (.inl (some (.int (w 1)))) (mk S (wr (wr I m (up (I m) 0 (w e))) (m + 1) (up (I (m + 1)) r (w (z + 1)))) L R G) := by
  obtain ⟨g0, g1, -⟩ := h
  simp (disch := omega) only [q_154_0, q_154_1, q_154_4, q_154_5, q_154_8, q_154_11, q_154_12, q_154_13, q_154_16, q_154_17, q_154_20, q_154_21, q_154_22, q_154_23, q_154_24, q_154_25, q_154_26, q_154_27, q_154_30, q_154_33, q_154_34, q_154_37, q_154_38, q_154_e, va_rf_s, bz_0, bz_1, bz_ok, bb_ok, Nat.add_assoc, w_lt, w_add, w_sub, w_mul, w_div, em_def, w_eq, w_inT, ↓ilt_t, ↓ilt_f, ↓ieq_t, ↓ieq_f, ntT, w_b, w_ix, kx_v, kx_n, kl_n, kl_i, kl_r, kl_o, inA_i, inA_s, inA_b, inA_z, inA_l, inA_0, inA_4, inA_5, inA_6, inA_7, inA_8, inA_9, inA_10, al_0, al_1, al_2, al_4, al_5, al_98, bsP_2, bsP_3, wr_same, wr_wr, wr_ne, up_same, up_ne, Nat.reduceAdd, Int.reduceAdd, Int.reduceSub, Int.reduceMul, Int.reduceLT, Int.reduceLE, Int.reduceEq, Int.reduceNeg, Int.reduceToNat, Nat.reduceLT, Nat.reduceLeDiff, Nat.reduceEqDiff, ↓reduceIte, true_and, and_true, not_true_eq_false, not_false_eq_true, eq_self, or_true, true_or, or_false, false_or, if_true, if_false, Int.toNat_natCast, w_ite, Nat.add_zero, reduceCtorEq, ne_eq, g0, g1, h0, hz]
theorem sp_155 {v a b : Int} (h1 : -2147483648 ≤ v) (h2 : v < 2147483648) (l1 : -2147483648 ≤ a) (l2 : a < 2147483648) (k1 : -2147483648 ≤ b) (k2 : b < 2147483648) : XC d 155 [.int (w v), .int (w a), .int (w b)] A Q ↔ Q (.inl (some (.int (bz (decide (a ≤ v) && decide (v ≤ b)))))) A := by
  by_cases c1 : a ≤ v
  · by_cases c2 : v ≤ b
    · rw [decide_eq_true c1, decide_eq_true c2]
      simp (disch := omega) only [q_155_0, q_155_1, q_155_2, q_155_5, q_155_6, q_155_7, q_155_10, q_155_11, q_155_14, q_155_15, q_155_e, va_rf_s, bz_0, bz_1, bz_ok, bb_ok, Nat.add_assoc, w_lt, w_add, w_sub, w_mul, w_div, em_def, w_eq, w_inT, ↓ilt_t, ↓ilt_f, ↓ieq_t, ↓ieq_f, ntT, w_b, w_ix, kx_v, kx_n, kl_n, kl_i, kl_r, kl_o, inA_i, inA_s, inA_b, inA_z, inA_l, inA_0, inA_4, inA_5, inA_6, inA_7, inA_8, inA_9, inA_10, al_0, al_1, al_2, al_4, al_5, al_98, bsP_2, bsP_3, wr_same, wr_wr, wr_ne, up_same, up_ne, Nat.reduceAdd, Int.reduceAdd, Int.reduceSub, Int.reduceMul, Int.reduceLT, Int.reduceLE, Int.reduceEq, Int.reduceNeg, Int.reduceToNat, Nat.reduceLT, Nat.reduceLeDiff, Nat.reduceEqDiff, ↓reduceIte, true_and, and_true, not_true_eq_false, not_false_eq_true, eq_self, or_true, true_or, or_false, false_or, if_true, if_false, Int.toNat_natCast, w_ite, Nat.add_zero, reduceCtorEq, ne_eq]
      exact Iff.rfl
    · rw [decide_eq_true c1, decide_eq_false c2]
      simp (disch := omega) only [q_155_0, q_155_1, q_155_2, q_155_5, q_155_6, q_155_7, q_155_10, q_155_11, q_155_14, q_155_15, q_155_e, va_rf_s, bz_0, bz_1, bz_ok, bb_ok, Nat.add_assoc, w_lt, w_add, w_sub, w_mul, w_div, em_def, w_eq, w_inT, ↓ilt_t, ↓ilt_f, ↓ieq_t, ↓ieq_f, ntT, w_b, w_ix, kx_v, kx_n, kl_n, kl_i, kl_r, kl_o, inA_i, inA_s, inA_b, inA_z, inA_l, inA_0, inA_4, inA_5, inA_6, inA_7, inA_8, inA_9, inA_10, al_0, al_1, al_2, al_4, al_5, al_98, bsP_2, bsP_3, wr_same, wr_wr, wr_ne, up_same, up_ne, Nat.reduceAdd, Int.reduceAdd, Int.reduceSub, Int.reduceMul, Int.reduceLT, Int.reduceLE, Int.reduceEq, Int.reduceNeg, Int.reduceToNat, Nat.reduceLT, Nat.reduceLeDiff, Nat.reduceEqDiff, ↓reduceIte, true_and, and_true, not_true_eq_false, not_false_eq_true, eq_self, or_true, true_or, or_false, false_or, if_true, if_false, Int.toNat_natCast, w_ite, Nat.add_zero, reduceCtorEq, ne_eq]
      exact Iff.rfl
  · rw [decide_eq_false c1, Bool.false_and]
    simp (disch := omega) only [q_155_0, q_155_1, q_155_2, q_155_5, q_155_6, q_155_7, q_155_10, q_155_11, q_155_14, q_155_15, q_155_e, va_rf_s, bz_0, bz_1, bz_ok, bb_ok, Nat.add_assoc, w_lt, w_add, w_sub, w_mul, w_div, em_def, w_eq, w_inT, ↓ilt_t, ↓ilt_f, ↓ieq_t, ↓ieq_f, ntT, w_b, w_ix, kx_v, kx_n, kl_n, kl_i, kl_r, kl_o, inA_i, inA_s, inA_b, inA_z, inA_l, inA_0, inA_4, inA_5, inA_6, inA_7, inA_8, inA_9, inA_10, al_0, al_1, al_2, al_4, al_5, al_98, bsP_2, bsP_3, wr_same, wr_wr, wr_ne, up_same, up_ne, Nat.reduceAdd, Int.reduceAdd, Int.reduceSub, Int.reduceMul, Int.reduceLT, Int.reduceLE, Int.reduceEq, Int.reduceNeg, Int.reduceToNat, Nat.reduceLT, Nat.reduceLeDiff, Nat.reduceEqDiff, ↓reduceIte, true_and, and_true, not_true_eq_false, not_false_eq_true, eq_self, or_true, true_or, or_false, false_or, if_true, if_false, Int.toNat_natCast, w_ite, Nat.add_zero, reduceCtorEq, ne_eq]
    exact Iff.rfl
theorem sp_156 {a b : Int} (l1 : -2147483648 ≤ a) (l2 : a < 2147483648) (k1 : -2147483648 ≤ b) (k2 : b < 2147483648) : XC d 156 [.int (w a), .int (w b)] A Q ↔ Q (.inl (some (.int (w (min a b))))) A := by
  by_cases c1 : a < b
  · rw [Int.min_eq_left (by omega)]
    simp (disch := omega) only [q_156_0, q_156_1, q_156_2, q_156_5, q_156_6, q_156_9, q_156_10, q_156_e, va_rf_s, bz_0, bz_1, bz_ok, bb_ok, Nat.add_assoc, w_lt, w_add, w_sub, w_mul, w_div, em_def, w_eq, w_inT, ↓ilt_t, ↓ilt_f, ↓ieq_t, ↓ieq_f, ntT, w_b, w_ix, kx_v, kx_n, kl_n, kl_i, kl_r, kl_o, inA_i, inA_s, inA_b, inA_z, inA_l, inA_0, inA_4, inA_5, inA_6, inA_7, inA_8, inA_9, inA_10, al_0, al_1, al_2, al_4, al_5, al_98, bsP_2, bsP_3, wr_same, wr_wr, wr_ne, up_same, up_ne, Nat.reduceAdd, Int.reduceAdd, Int.reduceSub, Int.reduceMul, Int.reduceLT, Int.reduceLE, Int.reduceEq, Int.reduceNeg, Int.reduceToNat, Nat.reduceLT, Nat.reduceLeDiff, Nat.reduceEqDiff, ↓reduceIte, true_and, and_true, not_true_eq_false, not_false_eq_true, eq_self, or_true, true_or, or_false, false_or, if_true, if_false, Int.toNat_natCast, w_ite, Nat.add_zero, reduceCtorEq, ne_eq]
  · rw [Int.min_eq_right (by omega)]
    simp (disch := omega) only [q_156_0, q_156_1, q_156_2, q_156_5, q_156_6, q_156_9, q_156_10, q_156_e, va_rf_s, bz_0, bz_1, bz_ok, bb_ok, Nat.add_assoc, w_lt, w_add, w_sub, w_mul, w_div, em_def, w_eq, w_inT, ↓ilt_t, ↓ilt_f, ↓ieq_t, ↓ieq_f, ntT, w_b, w_ix, kx_v, kx_n, kl_n, kl_i, kl_r, kl_o, inA_i, inA_s, inA_b, inA_z, inA_l, inA_0, inA_4, inA_5, inA_6, inA_7, inA_8, inA_9, inA_10, al_0, al_1, al_2, al_4, al_5, al_98, bsP_2, bsP_3, wr_same, wr_wr, wr_ne, up_same, up_ne, Nat.reduceAdd, Int.reduceAdd, Int.reduceSub, Int.reduceMul, Int.reduceLT, Int.reduceLE, Int.reduceEq, Int.reduceNeg, Int.reduceToNat, Nat.reduceLT, Nat.reduceLeDiff, Nat.reduceEqDiff, ↓reduceIte, true_and, and_true, not_true_eq_false, not_false_eq_true, eq_self, or_true, true_or, or_false, false_or, if_true, if_false, Int.toNat_natCast, w_ite, Nat.add_zero, reduceCtorEq, ne_eq]
theorem sp_182 {l : Int} (hl : B32 l) : XC (d + 1) 182 [.int (w l)] A Q ↔ Q (.inl (some (.int (bz (decide (0 ≤ l) && decide (l ≤ 1)))))) A := by
  have s := fun {d : Nat} {Q : XO → Hp → Prop} => sp_155 (d := d) (Q := Q) (A := A) (v := l) (a := 0) (b := 1) hl.1 hl.2 (by decide) (by decide) (by decide) (by decide)
  simp (disch := omega) only [q_182_0, q_182_1, q_182_2, q_182_3, q_182_6, q_182_e, va_rf_s, bz_0, bz_1, bz_ok, bb_ok, Nat.add_assoc, w_lt, w_add, w_sub, w_mul, w_div, em_def, w_eq, w_inT, ↓ilt_t, ↓ilt_f, ↓ieq_t, ↓ieq_f, ntT, w_b, w_ix, kx_v, kx_n, kl_n, kl_i, kl_r, kl_o, inA_i, inA_s, inA_b, inA_z, inA_l, inA_0, inA_4, inA_5, inA_6, inA_7, inA_8, inA_9, inA_10, al_0, al_1, al_2, al_4, al_5, al_98, bsP_2, bsP_3, wr_same, wr_wr, wr_ne, up_same, up_ne, Nat.reduceAdd, Int.reduceAdd, Int.reduceSub, Int.reduceMul, Int.reduceLT, Int.reduceLE, Int.reduceEq, Int.reduceNeg, Int.reduceToNat, Nat.reduceLT, Nat.reduceLeDiff, Nat.reduceEqDiff, ↓reduceIte, true_and, and_true, not_true_eq_false, not_false_eq_true, eq_self, or_true, true_or, or_false, false_or, if_true, if_false, Int.toNat_natCast, w_ite, Nat.add_zero, reduceCtorEq, ne_eq, s]
theorem sp_183 {l k : Int} {n : Nat} (h : MLay S R m) (hl : B32 l) (hk : B32 k) (hn : inL l → I (m + 3) l.toNat = w n ∧ n ≤ 30) : XC (d + 2) 183 [.ref m, .int (w l), .int (w k)] (mk S I L R G) Q ↔ Q (.inl (some (.int (bz (decide (inL l) && (decide (0 ≤ k) && decide (k < n))))))) (mk S I L R G) := by
  obtain ⟨g0, g1, g2, g3, -⟩ := h
  have s := fun {d : Nat} {Q : XO → Hp → Prop} => sp_182 (d := d) (Q := Q) (A := mk S I L R G) hl
  by_cases cl : inL l
  · obtain ⟨h1, h2⟩ := hn cl
    have s2 := fun {d : Nat} {Q : XO → Hp → Prop} => sp_155 (d := d) (Q := Q) (A := mk S I L R G) (v := k) (a := 0) (b := (n : Int) - 1) hk.1 hk.2 (by decide) (by decide) (by omega) (by omega)
    rw [decide_eq_true (show 0 ≤ l from cl.1), decide_eq_true (show l ≤ 1 by omega)] at s
    have e : decide (k ≤ (n : Int) - 1) = decide (k < (n : Int)) := by
      have : (k ≤ (n : Int) - 1) ↔ (k < (n : Int)) := by omega
      simp only [this]
    rw [e] at s2
    rw [decide_eq_true cl]
    simp (disch := omega) only [q_183_0, q_183_1, q_183_4, q_183_7, q_183_8, q_183_9, q_183_10, q_183_13, q_183_14, q_183_15, q_183_16, q_183_17, q_183_20, q_183_23, q_183_24, q_183_27, q_183_28, q_183_e, va_rf_s, bz_0, bz_1, bz_ok, bb_ok, Nat.add_assoc, w_lt, w_add, w_sub, w_mul, w_div, em_def, w_eq, w_inT, ↓ilt_t, ↓ilt_f, ↓ieq_t, ↓ieq_f, ntT, w_b, w_ix, kx_v, kx_n, kl_n, kl_i, kl_r, kl_o, inA_i, inA_s, inA_b, inA_z, inA_l, inA_0, inA_4, inA_5, inA_6, inA_7, inA_8, inA_9, inA_10, al_0, al_1, al_2, al_4, al_5, al_98, bsP_2, bsP_3, wr_same, wr_wr, wr_ne, up_same, up_ne, Nat.reduceAdd, Int.reduceAdd, Int.reduceSub, Int.reduceMul, Int.reduceLT, Int.reduceLE, Int.reduceEq, Int.reduceNeg, Int.reduceToNat, Nat.reduceLT, Nat.reduceLeDiff, Nat.reduceEqDiff, ↓reduceIte, true_and, and_true, not_true_eq_false, not_false_eq_true, eq_self, or_true, true_or, or_false, false_or, if_true, if_false, Int.toNat_natCast, w_ite, Nat.add_zero, reduceCtorEq, ne_eq, g0, g3, h1, s, s2, Bool.and_self]
    cases decide (0 ≤ k) && decide (k < (n : Int))
    · rw [if_pos rfl]; exact Iff.rfl
    · rw [if_neg (by decide)]; exact Iff.rfl
  · rw [decide_eq_false cl, Bool.false_and]
    have e : (decide (0 ≤ l) && decide (l ≤ 1)) = false := by
      rw [Bool.and_eq_false_iff, decide_eq_false_iff_not, decide_eq_false_iff_not]
      omega
    rw [e] at s
    simp (disch := omega) only [q_183_0, q_183_1, q_183_4, q_183_7, q_183_8, q_183_9, q_183_10, q_183_13, q_183_14, q_183_15, q_183_16, q_183_17, q_183_20, q_183_23, q_183_24, q_183_27, q_183_28, q_183_e, va_rf_s, bz_0, bz_1, bz_ok, bb_ok, Nat.add_assoc, w_lt, w_add, w_sub, w_mul, w_div, em_def, w_eq, w_inT, ↓ilt_t, ↓ilt_f, ↓ieq_t, ↓ieq_f, ntT, w_b, w_ix, kx_v, kx_n, kl_n, kl_i, kl_r, kl_o, inA_i, inA_s, inA_b, inA_z, inA_l, inA_0, inA_4, inA_5, inA_6, inA_7, inA_8, inA_9, inA_10, al_0, al_1, al_2, al_4, al_5, al_98, bsP_2, bsP_3, wr_same, wr_wr, wr_ne, up_same, up_ne, Nat.reduceAdd, Int.reduceAdd, Int.reduceSub, Int.reduceMul, Int.reduceLT, Int.reduceLE, Int.reduceEq, Int.reduceNeg, Int.reduceToNat, Nat.reduceLT, Nat.reduceLeDiff, Nat.reduceEqDiff, ↓reduceIte, true_and, and_true, not_true_eq_false, not_false_eq_true, eq_self, or_true, true_or, or_false, false_or, if_true, if_false, Int.toNat_natCast, w_ite, Nat.add_zero, reduceCtorEq, ne_eq, g0, s]
    exact Iff.rfl
/-- the first rule that fits -/
theorem sp_187 {st : Nat} {rs : List Rl} {n : Int} (h : MLay S R m) (hs : st < 27) (hR : RsM I m st rs) (n1 : 0 ≤ n) (n2 : n ≤ 999999999) : XC d 187 [.ref m, .int (w st), .int (w n)] (mk S I L R G) Q ↔ Q (.inl (some (.int (w (ffz rs n))))) (mk S I L R G) := by
  obtain ⟨g0, g1, g2, g3, g4, g5, -⟩ := h
  obtain ⟨r1, r2, r3⟩ := hR
  have lp : ∀ (j i : Nat) (o : Option Value), i + j = rs.length → (∀ k, k < i → rl_fit (rs.getD k rd0) n = false) → (XX d 187 2 [some (.ref m), some (.int (w st)), some (.int (w n)), some (.int (w i)), o] [] (mk S I L R G) Q ↔ Q (.inl (some (.int (w (ffz rs n))))) (mk S I L R G)) := by
    intro j
    induction j with
    | zero =>
      intro i o hi hb
      have hff : ff rs n = none := by
        unfold ff
        rw [List.findIdx?_eq_none_iff]
        intro ρ hρ
        obtain ⟨k, hk, rfl⟩ := List.getElem_of_mem hρ
        have := hb k (by omega)
        rw [List.getD_eq_getElem?_getD, List.getElem?_eq_getElem hk] at this
        exact this
      have e : ffz rs n = -1 := by unfold ffz; rw [hff]
      rw [q_187_2, e]
      simp (disch := omega) only [q_187_0, q_187_1, q_187_3, q_187_4, q_187_7, q_187_8, q_187_9, q_187_12, q_187_13, q_187_16, q_187_17, q_187_18, q_187_19, q_187_20, q_187_20o, q_187_22, q_187_23, q_187_23o, q_187_25, q_187_26, q_187_27, q_187_30, q_187_31, q_187_31o, q_187_33, q_187_34, q_187_35, q_187_38, q_187_39, q_187_39o, q_187_41, q_187_42, q_187_43, q_187_44, q_187_44o, q_187_46, q_187_47, q_187_48, q_187_51, q_187_52, q_187_53, q_187_56, q_187_59, q_187_60, q_187_e, va_rf_s, bz_0, bz_1, bz_ok, bb_ok, Nat.add_assoc, w_lt, w_add, w_sub, w_mul, w_div, em_def, w_eq, w_inT, ↓ilt_t, ↓ilt_f, ↓ieq_t, ↓ieq_f, ntT, w_b, w_ix, kx_v, kx_n, kl_n, kl_i, kl_r, kl_o, inA_i, inA_s, inA_b, inA_z, inA_l, inA_0, inA_4, inA_5, inA_6, inA_7, inA_8, inA_9, inA_10, al_0, al_1, al_2, al_4, al_5, al_98, bsP_2, bsP_3, wr_same, wr_wr, wr_ne, up_same, up_ne, Nat.reduceAdd, Int.reduceAdd, Int.reduceSub, Int.reduceMul, Int.reduceLT, Int.reduceLE, Int.reduceEq, Int.reduceNeg, Int.reduceToNat, Nat.reduceLT, Nat.reduceLeDiff, Nat.reduceEqDiff, ↓reduceIte, true_and, and_true, not_true_eq_false, not_false_eq_true, eq_self, or_true, true_or, or_false, false_or, if_true, if_false, Int.toNat_natCast, w_ite, Nat.add_zero, reduceCtorEq, ne_eq, g0, g3, r1]
    | succ j ih =>
      intro i o hi hb
      have hil : i < rs.length := by omega
      obtain ⟨a, b, ea, eb, h1, h2, h3, h4⟩ := g5.at hs (show i < 30 by omega)
      obtain ⟨x1, x2, x3, x4, x5, x6, x7⟩ := r3 i hil
      rw [← eb] at x1 x2 x3 x4
      obtain ⟨y1, y2, y3, y4, y5, y6, y7, -⟩ := x6
      have ih' := ih (i + 1) (some (.ref b)) (by omega)
      simp only [Int.natCast_add, Int.natCast_one] at ih'
      rw [q_187_2]
      have hg5 := g5.1
      by_cases c : rl_fit (rs.getD i rd0) n = true
      · have hff : ff rs n = some i := by
          unfold ff
          rw [List.findIdx?_eq_some_iff_getElem]
          refine ⟨hil, ?_, fun k hk => ?_⟩
          · rw [List.getD_eq_getElem?_getD, List.getElem?_eq_getElem hil] at c
            exact c
          · have := hb k hk
            rw [List.getD_eq_getElem?_getD, List.getElem?_eq_getElem (show k < rs.length by omega)] at this
            show ¬ rl_fit rs[k] n = true
            rw [show rl_fit rs[k] n = false from this]; decide
        have e : ffz rs n = i := by unfold ffz; rw [hff]
        rw [e]
        unfold rl_fit at c
        simp only [Bool.and_eq_true, decide_eq_true_eq] at c
        obtain ⟨⟨c1, c2⟩, c3⟩ := c
        have hm1 := Int.emod_nonneg n (show (rs.getD i rd0).2.2.1 ≠ 0 by omega)
        have hm2 := Int.emod_lt_of_pos n (show 0 < (rs.getD i rd0).2.2.1 by omega)
        simp (disch := omega) only [q_187_0, q_187_1, q_187_3, q_187_4, q_187_7, q_187_8, q_187_9, q_187_12, q_187_13, q_187_16, q_187_17, q_187_18, q_187_19, q_187_20, q_187_20o, q_187_22, q_187_23, q_187_23o, q_187_25, q_187_26, q_187_27, q_187_30, q_187_31, q_187_31o, q_187_33, q_187_34, q_187_35, q_187_38, q_187_39, q_187_39o, q_187_41, q_187_42, q_187_43, q_187_44, q_187_44o, q_187_46, q_187_47, q_187_48, q_187_51, q_187_52, q_187_53, q_187_56, q_187_59, q_187_60, q_187_e, va_rf_s, bz_0, bz_1, bz_ok, bb_ok, Nat.add_assoc, w_lt, w_add, w_sub, w_mul, w_div, em_def, w_eq, w_inT, ↓ilt_t, ↓ilt_f, ↓ieq_t, ↓ieq_f, ntT, w_b, w_ix, kx_v, kx_n, kl_n, kl_i, kl_r, kl_o, inA_i, inA_s, inA_b, inA_z, inA_l, inA_0, inA_4, inA_5, inA_6, inA_7, inA_8, inA_9, inA_10, al_0, al_1, al_2, al_4, al_5, al_98, bsP_2, bsP_3, wr_same, wr_wr, wr_ne, up_same, up_ne, Nat.reduceAdd, Int.reduceAdd, Int.reduceSub, Int.reduceMul, Int.reduceLT, Int.reduceLE, Int.reduceEq, Int.reduceNeg, Int.reduceToNat, Nat.reduceLT, Nat.reduceLeDiff, Nat.reduceEqDiff, ↓reduceIte, true_and, and_true, not_true_eq_false, not_false_eq_true, eq_self, or_true, true_or, or_false, false_or, if_true, if_false, Int.toNat_natCast, w_ite, Nat.add_zero, reduceCtorEq, ne_eq, g0, g3, r1, hg5, h1, h2, h3, h4, x1, x2, x3, x4]
      · have hf : rl_fit (rs.getD i rd0) n = false := by simpa using c
        have ih2 := ih' (fun k hk => by
          by_cases e : k = i
          · subst e; exact hf
          · exact hb k (by omega))
        unfold rl_fit at hf
        simp only [Bool.and_eq_false_iff, decide_eq_false_iff_not] at hf
        have hm1 := Int.emod_nonneg n (show (rs.getD i rd0).2.2.1 ≠ 0 by omega)
        have hm2 := Int.emod_lt_of_pos n (show 0 < (rs.getD i rd0).2.2.1 by omega)
        by_cases c1 : (rs.getD i rd0).1 ≤ n
        · by_cases c2 : n ≤ (rs.getD i rd0).2.1
          · have c3 : n % (rs.getD i rd0).2.2.1 ≠ (rs.getD i rd0).2.2.2.1 := by
              rcases hf with (hf | hf) | hf
              · exact absurd c1 hf
              · exact absurd c2 hf
              · exact hf
            simp (disch := omega) only [q_187_0, q_187_1, q_187_3, q_187_4, q_187_7, q_187_8, q_187_9, q_187_12, q_187_13, q_187_16, q_187_17, q_187_18, q_187_19, q_187_20, q_187_20o, q_187_22, q_187_23, q_187_23o, q_187_25, q_187_26, q_187_27, q_187_30, q_187_31, q_187_31o, q_187_33, q_187_34, q_187_35, q_187_38, q_187_39, q_187_39o, q_187_41, q_187_42, q_187_43, q_187_44, q_187_44o, q_187_46, q_187_47, q_187_48, q_187_51, q_187_52, q_187_53, q_187_56, q_187_59, q_187_60, q_187_e, va_rf_s, bz_0, bz_1, bz_ok, bb_ok, Nat.add_assoc, w_lt, w_add, w_sub, w_mul, w_div, em_def, w_eq, w_inT, ↓ilt_t, ↓ilt_f, ↓ieq_t, ↓ieq_f, ntT, w_b, w_ix, kx_v, kx_n, kl_n, kl_i, kl_r, kl_o, inA_i, inA_s, inA_b, inA_z, inA_l, inA_0, inA_4, inA_5, inA_6, inA_7, inA_8, inA_9, inA_10, al_0, al_1, al_2, al_4, al_5, al_98, bsP_2, bsP_3, wr_same, wr_wr, wr_ne, up_same, up_ne, Nat.reduceAdd, Int.reduceAdd, Int.reduceSub, Int.reduceMul, Int.reduceLT, Int.reduceLE, Int.reduceEq, Int.reduceNeg, Int.reduceToNat, Nat.reduceLT, Nat.reduceLeDiff, Nat.reduceEqDiff, ↓reduceIte, true_and, and_true, not_true_eq_false, not_false_eq_true, eq_self, or_true, true_or, or_false, false_or, if_true, if_false, Int.toNat_natCast, w_ite, Nat.add_zero, reduceCtorEq, ne_eq, g0, g3, r1, hg5, h1, h2, h3, h4, x1, x2, x3, x4]
            exact ih2
          · simp (disch := omega) only [q_187_0, q_187_1, q_187_3, q_187_4, q_187_7, q_187_8, q_187_9, q_187_12, q_187_13, q_187_16, q_187_17, q_187_18, q_187_19, q_187_20, q_187_20o, q_187_22, q_187_23, q_187_23o, q_187_25, q_187_26, q_187_27, q_187_30, q_187_31, q_187_31o, q_187_33, q_187_34, q_187_35, q_187_38, q_187_39, q_187_39o, q_187_41, q_187_42, q_187_43, q_187_44, q_187_44o, q_187_46, q_187_47, q_187_48, q_187_51, q_187_52, q_187_53, q_187_56, q_187_59, q_187_60, q_187_e, va_rf_s, bz_0, bz_1, bz_ok, bb_ok, Nat.add_assoc, w_lt, w_add, w_sub, w_mul, w_div, em_def, w_eq, w_inT, ↓ilt_t, ↓ilt_f, ↓ieq_t, ↓ieq_f, ntT, w_b, w_ix, kx_v, kx_n, kl_n, kl_i, kl_r, kl_o, inA_i, inA_s, inA_b, inA_z, inA_l, inA_0, inA_4, inA_5, inA_6, inA_7, inA_8, inA_9, inA_10, al_0, al_1, al_2, al_4, al_5, al_98, bsP_2, bsP_3, wr_same, wr_wr, wr_ne, up_same, up_ne, Nat.reduceAdd, Int.reduceAdd, Int.reduceSub, Int.reduceMul, Int.reduceLT, Int.reduceLE, Int.reduceEq, Int.reduceNeg, Int.reduceToNat, Nat.reduceLT, Nat.reduceLeDiff, Nat.reduceEqDiff, ↓reduceIte, true_and, and_true, not_true_eq_false, not_false_eq_true, eq_self, or_true, true_or, or_false, false_or, if_true, if_false, Int.toNat_natCast, w_ite, Nat.add_zero, reduceCtorEq, ne_eq, g0, g3, r1, hg5, h1, h2, h3, h4, x1, x2, x3, x4]
            exact ih2
        · simp (disch := omega) only [q_187_0, q_187_1, q_187_3, q_187_4, q_187_7, q_187_8, q_187_9, q_187_12, q_187_13, q_187_16, q_187_17, q_187_18, q_187_19, q_187_20, q_187_20o, q_187_22, q_187_23, q_187_23o, q_187_25, q_187_26, q_187_27, q_187_30, q_187_31, q_187_31o, q_187_33, q_187_34, q_187_35, q_187_38, q_187_39, q_187_39o, q_187_41, q_187_42, q_187_43, q_187_44, q_187_44o, q_187_46, q_187_47, q_187_48, q_187_51, q_187_52, q_187_53, q_187_56, q_187_59, q_187_60, q_187_e, va_rf_s, bz_0, bz_1, bz_ok, bb_ok, Nat.add_assoc, w_lt, w_add, w_sub, w_mul, w_div, em_def, w_eq, w_inT, ↓ilt_t, ↓ilt_f, ↓ieq_t, ↓ieq_f, ntT, w_b, w_ix, kx_v, kx_n, kl_n, kl_i, kl_r, kl_o, inA_i, inA_s, inA_b, inA_z, inA_l, inA_0, inA_4, inA_5, inA_6, inA_7, inA_8, inA_9, inA_10, al_0, al_1, al_2, al_4, al_5, al_98, bsP_2, bsP_3, wr_same, wr_wr, wr_ne, up_same, up_ne, Nat.reduceAdd, Int.reduceAdd, Int.reduceSub, Int.reduceMul, Int.reduceLT, Int.reduceLE, Int.reduceEq, Int.reduceNeg, Int.reduceToNat, Nat.reduceLT, Nat.reduceLeDiff, Nat.reduceEqDiff, ↓reduceIte, true_and, and_true, not_true_eq_false, not_false_eq_true, eq_self, or_true, true_or, or_false, false_or, if_true, if_false, Int.toNat_natCast, w_ite, Nat.add_zero, reduceCtorEq, ne_eq, g0, g3, r1, hg5, h1, h2, h3, h4, x1, x2, x3, x4]
          exact ih2
  have := lp rs.length 0 none (by omega) (fun k hk => by omega)
  simp only [Int.natCast_zero] at this
  simp (disch := omega) only [q_187_0, q_187_1, q_187_3, q_187_4, q_187_7, q_187_8, q_187_9, q_187_12, q_187_13, q_187_16, q_187_17, q_187_18, q_187_19, q_187_20, q_187_20o, q_187_22, q_187_23, q_187_23o, q_187_25, q_187_26, q_187_27, q_187_30, q_187_31, q_187_31o, q_187_33, q_187_34, q_187_35, q_187_38, q_187_39, q_187_39o, q_187_41, q_187_42, q_187_43, q_187_44, q_187_44o, q_187_46, q_187_47, q_187_48, q_187_51, q_187_52, q_187_53, q_187_56, q_187_59, q_187_60, q_187_e, va_rf_s, bz_0, bz_1, bz_ok, bb_ok, Nat.add_assoc, w_lt, w_add, w_sub, w_mul, w_div, em_def, w_eq, w_inT, ↓ilt_t, ↓ilt_f, ↓ieq_t, ↓ieq_f, ntT, w_b, w_ix, kx_v, kx_n, kl_n, kl_i, kl_r, kl_o, inA_i, inA_s, inA_b, inA_z, inA_l, inA_0, inA_4, inA_5, inA_6, inA_7, inA_8, inA_9, inA_10, al_0, al_1, al_2, al_4, al_5, al_98, bsP_2, bsP_3, wr_same, wr_wr, wr_ne, up_same, up_ne, Nat.reduceAdd, Int.reduceAdd, Int.reduceSub, Int.reduceMul, Int.reduceLT, Int.reduceLE, Int.reduceEq, Int.reduceNeg, Int.reduceToNat, Nat.reduceLT, Nat.reduceLeDiff, Nat.reduceEqDiff, ↓reduceIte, true_and, and_true, not_true_eq_false, not_false_eq_true, eq_self, or_true, true_or, or_false, false_or, if_true, if_false, Int.toNat_natCast, w_ite, Nat.add_zero, reduceCtorEq, ne_eq]
  exact this
end

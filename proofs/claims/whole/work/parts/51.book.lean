/-! the books -/
def mix {α : Type} (f g : Nat → α) (n : Nat) : Nat → α := fun j => if j < n then g j else f j
theorem mix_0 {α : Type} {f g : Nat → α} : mix f g 0 = f := by funext j; unfold mix; rw [if_neg (by omega)]
theorem mix_s {α : Type} {f g : Nat → α} {n : Nat} : up (mix f g n) n (g n) = mix f g (n + 1) := by
  funext j
  unfold up mix
  by_cases h : j = n
  · subst h; rw [if_pos rfl, if_pos (by omega)]
  · rw [if_neg h]
    by_cases h2 : j < n
    · rw [if_pos h2, if_pos (by omega)]
    · rw [if_neg h2, if_neg (by omega)]
def BookS (S : SH) (b : Nat) : Prop := S b = some (.inr 0) ∧ S (b + 1) = some (.inl (4, 60)) ∧ S (b + 2) = some (.inl (0, 2))
/-- a reference that is none, or a rule's -/
def rOk (S : SH) (o : Option Nat) : Prop := ∀ y, o = some y → S y = some (.inr 6)
theorem aq4 {S : SH} {o : Option Nat} {i : Int32} {n : Nat} (h : rOk S o) (hx : x_in i n = true) : aqP (some (.inl (4, n))) S o i ↔ True := by
  refine ⟨fun _ => trivial, fun _ => ?_⟩
  cases o with
  | none => exact aqP_n.mpr ⟨Or.inl rfl, hx⟩
  | some y => exact (aqP_s (h y rfl)).mpr ⟨rfl, hx⟩
/-- a language's rules in a book; all of them at cells from lo on -/
def BkL (S : SH) (I : MI) (L : ML) (R : MR) (b lo l : Nat) (rs : List Rl) : Prop := I (b + 2) l = w rs.length ∧ rs.length ≤ 30 ∧ ∀ i, i < rs.length → ∃ r, R (b + 1) (l * 30 + i) = some r ∧ lo ≤ r ∧ RuleAt S I L r (rs.getD i rd0)
section
variable {d : Nat} {Q : XO → Hp → Prop} {S : SH} {I : MI} {L : ML} {R : MR} {G : MG} {A : Hp}
variable {b l : Nat}
theorem sp_1 {z : Int} (h : BookS S b) (hl : l < 2) (hz : I (b + 2) l = w z) : XC d 1 [.ref b, .int (w l)] (mk S I L R G) Q ↔ Q (.inl (some (.int (w z)))) (mk S I L R G) := by
  obtain ⟨g0, g1, g2⟩ := h
  simp (disch := omega) only [q_1_0, q_1_1, q_1_4, q_1_5, q_1_6, q_1_9, q_1_10, q_1_13, q_1_14, q_1_17, q_1_18, q_1_19, q_1_22, q_1_23, q_1_e, va_rf_s, bz_0, bz_1, bz_ok, bb_ok, Nat.add_assoc, w_lt, w_add, w_sub, w_mul, w_div, em_def, w_eq, w_inT, ↓ilt_t, ↓ilt_f, ↓ieq_t, ↓ieq_f, ntT, w_b, w_ix, kx_v, kx_n, kl_n, kl_i, kl_r, kl_o, inA_i, inA_s, inA_b, inA_z, inA_l, inA_0, inA_4, inA_5, inA_6, inA_7, inA_8, inA_9, inA_10, al_0, al_1, al_2, al_4, al_5, al_98, bsP_2, bsP_3, wr_same, wr_wr, wr_ne, up_same, up_ne, Nat.reduceAdd, Int.reduceAdd, Int.reduceSub, Int.reduceMul, Int.reduceLT, Int.reduceLE, Int.reduceEq, Int.reduceNeg, Int.reduceToNat, Nat.reduceLT, Nat.reduceLeDiff, Nat.reduceEqDiff, ↓reduceIte, true_and, and_true, not_true_eq_false, not_false_eq_true, eq_self, or_true, true_or, or_false, false_or, if_true, if_false, Int.toNat_natCast, w_ite, Nat.add_zero, reduceCtorEq, ne_eq, g0, g1, g2, hz]
theorem sp_2 {n r : Nat} {i : Nat} (h : BookS S b) (hl : l < 2) (hz : I (b + 2) l = w n) (hn : n ≤ 30) (hi : i < n) (hr : R (b + 1) (l * 30 + i) = some r) : XC (d + 1) 2 [.ref b, .int (w l), .int (w i)] (mk S I L R G) Q ↔ Q (.inl (some (.ref r))) (mk S I L R G) := by
  have e : ((l : Int) * 30 + i).toNat = l * 30 + i := by omega
  have s1 := fun {d : Nat} {Q : XO → Hp → Prop} => sp_1 (d := d) (Q := Q) (L := L) (R := R) (G := G) h hl hz
  obtain ⟨g0, g1, g2⟩ := h
  simp (disch := omega) only [q_2_0, q_2_1, q_2_4, q_2_5, q_2_6, q_2_7, q_2_10, q_2_13, q_2_14, q_2_15, q_2_16, q_2_18, q_2_19, q_2_20, q_2_21, q_2_22, q_2_23, q_2_24, q_2_27, q_2_28, q_2_31, q_2_32, q_2_35, q_2_36, q_2_37, q_2_40, q_2_41, q_2_41o, q_2_e, va_rf_s, bz_0, bz_1, bz_ok, bb_ok, Nat.add_assoc, w_lt, w_add, w_sub, w_mul, w_div, em_def, w_eq, w_inT, ↓ilt_t, ↓ilt_f, ↓ieq_t, ↓ieq_f, ntT, w_b, w_ix, kx_v, kx_n, kl_n, kl_i, kl_r, kl_o, inA_i, inA_s, inA_b, inA_z, inA_l, inA_0, inA_4, inA_5, inA_6, inA_7, inA_8, inA_9, inA_10, al_0, al_1, al_2, al_4, al_5, al_98, bsP_2, bsP_3, wr_same, wr_wr, wr_ne, up_same, up_ne, Nat.reduceAdd, Int.reduceAdd, Int.reduceSub, Int.reduceMul, Int.reduceLT, Int.reduceLE, Int.reduceEq, Int.reduceNeg, Int.reduceToNat, Nat.reduceLT, Nat.reduceLeDiff, Nat.reduceEqDiff, ↓reduceIte, true_and, and_true, not_true_eq_false, not_false_eq_true, eq_self, or_true, true_or, or_false, false_or, if_true, if_false, Int.toNat_natCast, w_ite, Nat.add_zero, reduceCtorEq, ne_eq, g0, g1, g2, s1, e, hr]
theorem sp_2n {n : Nat} {i : Int} (h : BookS S b) (hl : l < 2) (hz : I (b + 2) l = w n) (hn : n ≤ 30) (h1 : -2147483648 ≤ i) (h2 : i < 2147483648) (hi : i < 0 ∨ n ≤ i) : XC (d + 1) 2 [.ref b, .int (w l), .int (w i)] (mk S I L R G) Q ↔ Q (.inl (some .null)) (mk S I L R G) := by
  have s1 := fun {d : Nat} {Q : XO → Hp → Prop} => sp_1 (d := d) (Q := Q) (L := L) (R := R) (G := G) h hl hz
  obtain ⟨g0, g1, g2⟩ := h
  simp (disch := omega) only [q_2_0, q_2_1, q_2_4, q_2_5, q_2_6, q_2_7, q_2_10, q_2_13, q_2_14, q_2_15, q_2_16, q_2_18, q_2_19, q_2_20, q_2_21, q_2_22, q_2_23, q_2_24, q_2_27, q_2_28, q_2_31, q_2_32, q_2_35, q_2_36, q_2_37, q_2_40, q_2_41, q_2_41o, q_2_e, va_rf_s, bz_0, bz_1, bz_ok, bb_ok, Nat.add_assoc, w_lt, w_add, w_sub, w_mul, w_div, em_def, w_eq, w_inT, ↓ilt_t, ↓ilt_f, ↓ieq_t, ↓ieq_f, ntT, w_b, w_ix, kx_v, kx_n, kl_n, kl_i, kl_r, kl_o, inA_i, inA_s, inA_b, inA_z, inA_l, inA_0, inA_4, inA_5, inA_6, inA_7, inA_8, inA_9, inA_10, al_0, al_1, al_2, al_4, al_5, al_98, bsP_2, bsP_3, wr_same, wr_wr, wr_ne, up_same, up_ne, Nat.reduceAdd, Int.reduceAdd, Int.reduceSub, Int.reduceMul, Int.reduceLT, Int.reduceLE, Int.reduceEq, Int.reduceNeg, Int.reduceToNat, Nat.reduceLT, Nat.reduceLeDiff, Nat.reduceEqDiff, ↓reduceIte, true_and, and_true, not_true_eq_false, not_false_eq_true, eq_self, or_true, true_or, or_false, false_or, if_true, if_false, Int.toNat_natCast, w_ite, Nat.add_zero, reduceCtorEq, ne_eq, g0, g1, g2, s1]
  by_cases c : i < 0
  · rw [if_pos c]
  · rw [if_neg c]
theorem sp_3 (h : BookS S b) (hl : l < 2) : XC d 3 [.ref b, .int (w l)] (mk S I L R G) Q ↔ Q (.inl none) (mk S (wr I (b + 2) (up (I (b + 2)) l (w 0))) L R G) := by
  obtain ⟨g0, g1, g2⟩ := h
  simp (disch := omega) only [q_3_0, q_3_1, q_3_4, q_3_5, q_3_6, q_3_9, q_3_10, q_3_13, q_3_14, q_3_17, q_3_18, q_3_19, q_3_20, q_3_e, va_rf_s, bz_0, bz_1, bz_ok, bb_ok, Nat.add_assoc, w_lt, w_add, w_sub, w_mul, w_div, em_def, w_eq, w_inT, ↓ilt_t, ↓ilt_f, ↓ieq_t, ↓ieq_f, ntT, w_b, w_ix, kx_v, kx_n, kl_n, kl_i, kl_r, kl_o, inA_i, inA_s, inA_b, inA_z, inA_l, inA_0, inA_4, inA_5, inA_6, inA_7, inA_8, inA_9, inA_10, al_0, al_1, al_2, al_4, al_5, al_98, bsP_2, bsP_3, wr_same, wr_wr, wr_ne, up_same, up_ne, Nat.reduceAdd, Int.reduceAdd, Int.reduceSub, Int.reduceMul, Int.reduceLT, Int.reduceLE, Int.reduceEq, Int.reduceNeg, Int.reduceToNat, Nat.reduceLT, Nat.reduceLeDiff, Nat.reduceEqDiff, ↓reduceIte, true_and, and_true, not_true_eq_false, not_false_eq_true, eq_self, or_true, true_or, or_false, false_or, if_true, if_false, Int.toNat_natCast, w_ite, Nat.add_zero, reduceCtorEq, ne_eq, g0, g1, g2]
theorem sp_4 {n r : Nat} (h : BookS S b) (hl : l < 2) (hz : I (b + 2) l = w n) (hn : n < 30) (hr : S r = some (.inr 6)) : XC (d + 1) 4 [.ref b, .int (w l), .ref r] (mk S I L R G) Q ↔ Q (.inl none) (mk S (wr I (b + 2) (up (I (b + 2)) l (w (n + 1)))) L (wr R (b + 1) (up (R (b + 1)) (l * 30 + n) (some r))) G) := by
  have e : ((l : Int) * 30 + n).toNat = l * 30 + n := by omega
  have s1 := fun {d : Nat} {Q : XO → Hp → Prop} => sp_1 (d := d) (Q := Q) (L := L) (R := R) (G := G) h hl hz
  obtain ⟨g0, g1, g2⟩ := h
  have ha : aqP (some (.inl (4, 60))) S (some r) (w ((l : Int) * 30 + n)) ↔ True := aq4 (fun y hy => by cases hy; exact hr) ((w_in (by omega) (by omega)).mpr ⟨by omega, by omega⟩)
  simp (disch := omega) only [q_4_0, q_4_1, q_4_2, q_4_5, q_4_6, q_4_7, q_4_10, q_4_11, q_4_12, q_4_15, q_4_16, q_4_19, q_4_20, q_4_22, q_4_25, q_4_26, q_4_29, q_4_30, q_4_32, q_4_33, q_4_34, q_4_35, q_4_36, q_4_36o, q_4_37, q_4_38, q_4_41, q_4_42, q_4_43, q_4_44, q_4_45, q_4_46, q_4_e, va_rf_s, bz_0, bz_1, bz_ok, bb_ok, Nat.add_assoc, w_lt, w_add, w_sub, w_mul, w_div, em_def, w_eq, w_inT, ↓ilt_t, ↓ilt_f, ↓ieq_t, ↓ieq_f, ntT, w_b, w_ix, kx_v, kx_n, kl_n, kl_i, kl_r, kl_o, inA_i, inA_s, inA_b, inA_z, inA_l, inA_0, inA_4, inA_5, inA_6, inA_7, inA_8, inA_9, inA_10, al_0, al_1, al_2, al_4, al_5, al_98, bsP_2, bsP_3, wr_same, wr_wr, wr_ne, up_same, up_ne, Nat.reduceAdd, Int.reduceAdd, Int.reduceSub, Int.reduceMul, Int.reduceLT, Int.reduceLE, Int.reduceEq, Int.reduceNeg, Int.reduceToNat, Nat.reduceLT, Nat.reduceLeDiff, Nat.reduceEqDiff, ↓reduceIte, true_and, and_true, not_true_eq_false, not_false_eq_true, eq_self, or_true, true_or, or_false, false_or, if_true, if_false, Int.toNat_natCast, w_ite, Nat.add_zero, reduceCtorEq, ne_eq, g0, g1, g2, s1, e, ha]
theorem sp_5 {n k : Nat} (h : BookS S b) (hl : l < 2) (hz : I (b + 2) l = w n) (hn : n ≤ 30) (hk : k < n) (hr : ∀ i, i < 60 → rOk S (R (b + 1) i))
    (hQ : ∀ f : Nat → Option Nat, (∀ i, f i = if l * 30 + k ≤ i ∧ i + 1 < l * 30 + n then R (b + 1) (i + 1) else R (b + 1) i) → Q (.inl none) (mk S (wr I (b + 2) (up (I (b + 2)) l (w (n - 1)))) L (wr R (b + 1) f) G)) :
    XC (d + 1) 5 [.ref b, .int (w l), .int (w k)] (mk S I L R G) Q := by
  have s1 := fun {d : Nat} {Q : XO → Hp → Prop} => sp_1 (d := d) (Q := Q) (L := L) (R := R) (G := G) h hl hz
  obtain ⟨g0, g1, g2⟩ := h
  have lp : ∀ (j i : Nat) (f : Nat → Option Nat), i + 1 + j = n → k ≤ i → (∀ q, f q = if l * 30 + k ≤ q ∧ q < l * 30 + i then R (b + 1) (q + 1) else R (b + 1) q) → XX (d + 1) 5 31 [some (.ref b), some (.int (w l)), some (.int (w k)), some (.int (w n)), some (.int (w (l * 30))), some (.int (w i))] [] (mk S I L (wr R (b + 1) f) G) Q := by
    intro j
    induction j with
    | zero =>
      intro i f hi hki hf
      rw [q_5_31]
      simp (disch := omega) only [q_5_0, q_5_1, q_5_2, q_5_5, q_5_6, q_5_7, q_5_10, q_5_11, q_5_12, q_5_15, q_5_16, q_5_18, q_5_21, q_5_22, q_5_23, q_5_25, q_5_26, q_5_28, q_5_29, q_5_33, q_5_34, q_5_35, q_5_36, q_5_39, q_5_40, q_5_43, q_5_45, q_5_47, q_5_48, q_5_49, q_5_52, q_5_54, q_5_56, q_5_57, q_5_58, q_5_59, q_5_60, q_5_60o, q_5_61, q_5_64, q_5_67, q_5_68, q_5_71, q_5_72, q_5_73, q_5_74, q_5_75, q_5_76, q_5_e, va_rf_s, bz_0, bz_1, bz_ok, bb_ok, Nat.add_assoc, w_lt, w_add, w_sub, w_mul, w_div, em_def, w_eq, w_inT, ↓ilt_t, ↓ilt_f, ↓ieq_t, ↓ieq_f, ntT, w_b, w_ix, kx_v, kx_n, kl_n, kl_i, kl_r, kl_o, inA_i, inA_s, inA_b, inA_z, inA_l, inA_0, inA_4, inA_5, inA_6, inA_7, inA_8, inA_9, inA_10, al_0, al_1, al_2, al_4, al_5, al_98, bsP_2, bsP_3, wr_same, wr_wr, wr_ne, up_same, up_ne, Nat.reduceAdd, Int.reduceAdd, Int.reduceSub, Int.reduceMul, Int.reduceLT, Int.reduceLE, Int.reduceEq, Int.reduceNeg, Int.reduceToNat, Nat.reduceLT, Nat.reduceLeDiff, Nat.reduceEqDiff, ↓reduceIte, true_and, and_true, not_true_eq_false, not_false_eq_true, eq_self, or_true, true_or, or_false, false_or, if_true, if_false, Int.toNat_natCast, w_ite, Nat.add_zero, reduceCtorEq, ne_eq, g0, g1, g2]
      refine hQ f (fun q => ?_)
      rw [hf]
      by_cases c : l * 30 + k ≤ q ∧ q < l * 30 + i
      · rw [if_pos c, if_pos (by omega)]
      · rw [if_neg c, if_neg (by omega)]
    | succ j ih =>
      intro i f hi hki hf
      have e1 : ((l : Int) * 30 + i).toNat = l * 30 + i := by omega
      have e2 : ((l : Int) * 30 + i + 1).toNat = l * 30 + i + 1 := by omega
      have e3 : f (l * 30 + i + 1) = R (b + 1) (l * 30 + i + 1) := by rw [hf, if_neg (by omega)]
      have ha : aqP (some (.inl (4, 60))) S (R (b + 1) (l * 30 + i + 1)) (w ((l : Int) * 30 + i)) ↔ True := aq4 (hr _ (by omega)) ((w_in (by omega) (by omega)).mpr ⟨by omega, by omega⟩)
      simp only [Nat.add_assoc] at e2 e3 ha
      simp only [Int.add_assoc] at e2
      rw [q_5_31]
      simp (disch := omega) only [q_5_0, q_5_1, q_5_2, q_5_5, q_5_6, q_5_7, q_5_10, q_5_11, q_5_12, q_5_15, q_5_16, q_5_18, q_5_21, q_5_22, q_5_23, q_5_25, q_5_26, q_5_28, q_5_29, q_5_33, q_5_34, q_5_35, q_5_36, q_5_39, q_5_40, q_5_43, q_5_45, q_5_47, q_5_48, q_5_49, q_5_52, q_5_54, q_5_56, q_5_57, q_5_58, q_5_59, q_5_60, q_5_60o, q_5_61, q_5_64, q_5_67, q_5_68, q_5_71, q_5_72, q_5_73, q_5_74, q_5_75, q_5_76, q_5_e, va_rf_s, bz_0, bz_1, bz_ok, bb_ok, Nat.add_assoc, w_lt, w_add, w_sub, w_mul, w_div, em_def, w_eq, w_inT, ↓ilt_t, ↓ilt_f, ↓ieq_t, ↓ieq_f, ntT, w_b, w_ix, kx_v, kx_n, kl_n, kl_i, kl_r, kl_o, inA_i, inA_s, inA_b, inA_z, inA_l, inA_0, inA_4, inA_5, inA_6, inA_7, inA_8, inA_9, inA_10, al_0, al_1, al_2, al_4, al_5, al_98, bsP_2, bsP_3, wr_same, wr_wr, wr_ne, up_same, up_ne, Nat.reduceAdd, Int.reduceAdd, Int.reduceSub, Int.reduceMul, Int.reduceLT, Int.reduceLE, Int.reduceEq, Int.reduceNeg, Int.reduceToNat, Nat.reduceLT, Nat.reduceLeDiff, Nat.reduceEqDiff, ↓reduceIte, true_and, and_true, not_true_eq_false, not_false_eq_true, eq_self, or_true, true_or, or_false, false_or, if_true, if_false, Int.toNat_natCast, w_ite, Nat.add_zero, reduceCtorEq, ne_eq, g0, g1, g2, Int.add_assoc, e1, e2, e3, ha]
      have := ih (i + 1) (up f (l * 30 + i) (R (b + 1) (l * 30 + (i + 1)))) (by omega) (by omega) (fun q => by
        by_cases c : q = l * 30 + i
        · subst c; rw [up_same, if_pos (by omega)]; rfl
        · rw [up_ne c, hf]
          by_cases c2 : l * 30 + k ≤ q ∧ q < l * 30 + i
          · rw [if_pos c2, if_pos (by omega)]
          · rw [if_neg c2, if_neg (by omega)])
      simp only [Int.natCast_add, Int.natCast_one] at this
      exact this
  have := lp (n - 1 - k) k (R (b + 1)) (by omega) (by omega) (fun q => by rw [if_neg (by omega)])
  rw [wr_self] at this
  simp (disch := omega) only [q_5_0, q_5_1, q_5_2, q_5_5, q_5_6, q_5_7, q_5_10, q_5_11, q_5_12, q_5_15, q_5_16, q_5_18, q_5_21, q_5_22, q_5_23, q_5_25, q_5_26, q_5_28, q_5_29, q_5_33, q_5_34, q_5_35, q_5_36, q_5_39, q_5_40, q_5_43, q_5_45, q_5_47, q_5_48, q_5_49, q_5_52, q_5_54, q_5_56, q_5_57, q_5_58, q_5_59, q_5_60, q_5_60o, q_5_61, q_5_64, q_5_67, q_5_68, q_5_71, q_5_72, q_5_73, q_5_74, q_5_75, q_5_76, q_5_e, va_rf_s, bz_0, bz_1, bz_ok, bb_ok, Nat.add_assoc, w_lt, w_add, w_sub, w_mul, w_div, em_def, w_eq, w_inT, ↓ilt_t, ↓ilt_f, ↓ieq_t, ↓ieq_f, ntT, w_b, w_ix, kx_v, kx_n, kl_n, kl_i, kl_r, kl_o, inA_i, inA_s, inA_b, inA_z, inA_l, inA_0, inA_4, inA_5, inA_6, inA_7, inA_8, inA_9, inA_10, al_0, al_1, al_2, al_4, al_5, al_98, bsP_2, bsP_3, wr_same, wr_wr, wr_ne, up_same, up_ne, Nat.reduceAdd, Int.reduceAdd, Int.reduceSub, Int.reduceMul, Int.reduceLT, Int.reduceLE, Int.reduceEq, Int.reduceNeg, Int.reduceToNat, Nat.reduceLT, Nat.reduceLeDiff, Nat.reduceEqDiff, ↓reduceIte, true_and, and_true, not_true_eq_false, not_false_eq_true, eq_self, or_true, true_or, or_false, false_or, if_true, if_false, Int.toNat_natCast, w_ite, Nat.add_zero, reduceCtorEq, ne_eq, g0, s1]
  exact this
theorem sp_6 {n k : Nat} (h : BookS S b) (hl : l < 2) (hz : I (b + 2) l = w n) (hn : n ≤ 30) (hk : k < n) (h1 : 1 ≤ k) (hr : ∀ i, i < 60 → rOk S (R (b + 1) i)) : XC (d + 1) 6 [.ref b, .int (w l), .int (w k)] (mk S I L R G) Q ↔ Q (.inl none) (mk S I L (wr R (b + 1) (up (up (R (b + 1)) (l * 30 + k) (R (b + 1) (l * 30 + k - 1))) (l * 30 + k - 1) (R (b + 1) (l * 30 + k)))) G) := by
  have s1 := fun {d : Nat} {Q : XO → Hp → Prop} => sp_1 (d := d) (Q := Q) (L := L) (R := R) (G := G) h hl hz
  obtain ⟨g0, g1, g2⟩ := h
  have e1 : ((l : Int) * 30 + k).toNat = l * 30 + k := by omega
  have e2 : ((l : Int) * 30 + k - 1).toNat = l * 30 + k - 1 := by omega
  have ha1 : aqP (some (.inl (4, 60))) S (R (b + 1) (l * 30 + k - 1)) (w ((l : Int) * 30 + k)) ↔ True := aq4 (hr _ (by omega)) ((w_in (by omega) (by omega)).mpr ⟨by omega, by omega⟩)
  have ha2 : aqP (some (.inl (4, 60))) S (R (b + 1) (l * 30 + k)) (w ((l : Int) * 30 + k - 1)) ↔ True := aq4 (hr _ (by omega)) ((w_in (by omega) (by omega)).mpr ⟨by omega, by omega⟩)
  simp (disch := omega) only [q_6_0, q_6_1, q_6_2, q_6_5, q_6_6, q_6_7, q_6_8, q_6_11, q_6_14, q_6_15, q_6_16, q_6_18, q_6_19, q_6_20, q_6_21, q_6_22, q_6_23, q_6_26, q_6_27, q_6_28, q_6_28o, q_6_30, q_6_31, q_6_34, q_6_35, q_6_36, q_6_39, q_6_40, q_6_41, q_6_42, q_6_43, q_6_43o, q_6_44, q_6_45, q_6_48, q_6_49, q_6_50, q_6_51, q_6_51o, q_6_53, q_6_53o, q_6_54, q_6_e, va_rf_s, bz_0, bz_1, bz_ok, bb_ok, Nat.add_assoc, w_lt, w_add, w_sub, w_mul, w_div, em_def, w_eq, w_inT, ↓ilt_t, ↓ilt_f, ↓ieq_t, ↓ieq_f, ntT, w_b, w_ix, kx_v, kx_n, kl_n, kl_i, kl_r, kl_o, inA_i, inA_s, inA_b, inA_z, inA_l, inA_0, inA_4, inA_5, inA_6, inA_7, inA_8, inA_9, inA_10, al_0, al_1, al_2, al_4, al_5, al_98, bsP_2, bsP_3, wr_same, wr_wr, wr_ne, up_same, up_ne, Nat.reduceAdd, Int.reduceAdd, Int.reduceSub, Int.reduceMul, Int.reduceLT, Int.reduceLE, Int.reduceEq, Int.reduceNeg, Int.reduceToNat, Nat.reduceLT, Nat.reduceLeDiff, Nat.reduceEqDiff, ↓reduceIte, true_and, and_true, not_true_eq_false, not_false_eq_true, eq_self, or_true, true_or, or_false, false_or, if_true, if_false, Int.toNat_natCast, w_ite, Nat.add_zero, reduceCtorEq, ne_eq, g0, g1, g2, s1, e1, e2, ha1, ha2]
/-- a book as another one -/
def bkCopy (I I' : MI) (R R' : MR) (b o : Nat) : Prop := (∀ a, a ≠ b → a ≠ b + 2 → I' a = I a) ∧ (∀ j, j ≠ 2 → I' b j = I b j) ∧ (∀ a, a ≠ b + 1 → R' a = R a) ∧ (∀ i, i < 60 → R' (b + 1) i = R (o + 1) i) ∧ (∀ l, l < 2 → I' (b + 2) l = I (o + 2) l) ∧ I' b 2 = I o 2
theorem sp_7 {o : Nat} (h : BookS S b) (ho : BookS S o) (hbo : b + 3 ≤ o ∨ o + 3 ≤ b) (hr : ∀ i, i < 60 → rOk S (R (o + 1) i)) (hQ : ∀ (I' : MI) (R' : MR), bkCopy I I' R R' b o → Q (.inl none) (mk S I' L R' G)) : XC d 7 [.ref b, .ref o] (mk S I L R G) Q := by
  obtain ⟨g0, g1, g2⟩ := h
  obtain ⟨o0, o1, o2⟩ := ho
  have lp2 : ∀ (j i : Nat) (R' : MR), i + j = 2 → (∀ a, a ≠ b + 1 → R' a = R a) → (∀ i, i < 60 → R' (b + 1) i = R (o + 1) i) → XX d 7 40 [some (.ref b), some (.ref o), some (.int (w i))] [] (mk S (wr I (b + 2) (mix (I (b + 2)) (I (o + 2)) i)) L R' G) Q := by
    intro j
    induction j with
    | zero =>
      intro i R' hi h1 h2
      rw [q_7_40]
      simp (disch := omega) only [q_7_0, q_7_1, q_7_2, q_7_3, q_7_4, q_7_7, q_7_8, q_7_11, q_7_12, q_7_13, q_7_16, q_7_17, q_7_20, q_7_21, q_7_24, q_7_25, q_7_26, q_7_29, q_7_30, q_7_31, q_7_31o, q_7_32, q_7_35, q_7_38, q_7_39, q_7_41, q_7_42, q_7_45, q_7_46, q_7_49, q_7_50, q_7_51, q_7_54, q_7_55, q_7_58, q_7_59, q_7_62, q_7_63, q_7_64, q_7_67, q_7_68, q_7_69, q_7_70, q_7_73, q_7_76, q_7_77, q_7_78, q_7_81, q_7_84, q_7_e, va_rf_s, bz_0, bz_1, bz_ok, bb_ok, Nat.add_assoc, w_lt, w_add, w_sub, w_mul, w_div, em_def, w_eq, w_inT, ↓ilt_t, ↓ilt_f, ↓ieq_t, ↓ieq_f, ntT, w_b, w_ix, kx_v, kx_n, kl_n, kl_i, kl_r, kl_o, inA_i, inA_s, inA_b, inA_z, inA_l, inA_0, inA_4, inA_5, inA_6, inA_7, inA_8, inA_9, inA_10, al_0, al_1, al_2, al_4, al_5, al_98, bsP_2, bsP_3, wr_same, wr_wr, wr_ne, up_same, up_ne, Nat.reduceAdd, Int.reduceAdd, Int.reduceSub, Int.reduceMul, Int.reduceLT, Int.reduceLE, Int.reduceEq, Int.reduceNeg, Int.reduceToNat, Nat.reduceLT, Nat.reduceLeDiff, Nat.reduceEqDiff, ↓reduceIte, true_and, and_true, not_true_eq_false, not_false_eq_true, eq_self, or_true, true_or, or_false, false_or, if_true, if_false, Int.toNat_natCast, w_ite, Nat.add_zero, reduceCtorEq, ne_eq, g0, g1, g2, o0, o1, o2]
      refine hQ _ R' ⟨fun a ha hb => ?_, fun j hj => ?_, h1, h2, fun l hl => ?_, ?_⟩
      · rw [wr_ne ha, wr_ne hb]
      · rw [wr_same, up_ne hj]
      · rw [wr_ne (by omega), wr_same]; unfold mix; rw [if_pos (by omega)]
      · rw [wr_same, up_same]
    | succ j ih =>
      intro i R' hi h1 h2
      rw [q_7_40]
      simp (disch := omega) only [q_7_0, q_7_1, q_7_2, q_7_3, q_7_4, q_7_7, q_7_8, q_7_11, q_7_12, q_7_13, q_7_16, q_7_17, q_7_20, q_7_21, q_7_24, q_7_25, q_7_26, q_7_29, q_7_30, q_7_31, q_7_31o, q_7_32, q_7_35, q_7_38, q_7_39, q_7_41, q_7_42, q_7_45, q_7_46, q_7_49, q_7_50, q_7_51, q_7_54, q_7_55, q_7_58, q_7_59, q_7_62, q_7_63, q_7_64, q_7_67, q_7_68, q_7_69, q_7_70, q_7_73, q_7_76, q_7_77, q_7_78, q_7_81, q_7_84, q_7_e, va_rf_s, bz_0, bz_1, bz_ok, bb_ok, Nat.add_assoc, w_lt, w_add, w_sub, w_mul, w_div, em_def, w_eq, w_inT, ↓ilt_t, ↓ilt_f, ↓ieq_t, ↓ieq_f, ntT, w_b, w_ix, kx_v, kx_n, kl_n, kl_i, kl_r, kl_o, inA_i, inA_s, inA_b, inA_z, inA_l, inA_0, inA_4, inA_5, inA_6, inA_7, inA_8, inA_9, inA_10, al_0, al_1, al_2, al_4, al_5, al_98, bsP_2, bsP_3, wr_same, wr_wr, wr_ne, up_same, up_ne, Nat.reduceAdd, Int.reduceAdd, Int.reduceSub, Int.reduceMul, Int.reduceLT, Int.reduceLE, Int.reduceEq, Int.reduceNeg, Int.reduceToNat, Nat.reduceLT, Nat.reduceLeDiff, Nat.reduceEqDiff, ↓reduceIte, true_and, and_true, not_true_eq_false, not_false_eq_true, eq_self, or_true, true_or, or_false, false_or, if_true, if_false, Int.toNat_natCast, w_ite, Nat.add_zero, reduceCtorEq, ne_eq, g0, g1, g2, o0, o1, o2]
      have := ih (i + 1) R' (by omega) h1 h2
      rw [← mix_s] at this
      simp only [Int.natCast_add, Int.natCast_one] at this
      exact this
  have lp1 : ∀ (j i : Nat), i + j = 60 → XX d 7 2 [some (.ref b), some (.ref o), some (.int (w i))] [] (mk S I L (wr R (b + 1) (mix (R (b + 1)) (R (o + 1)) i)) G) Q := by
    intro j
    induction j with
    | zero =>
      intro i hi
      rw [q_7_2]
      have := lp2 2 0 (wr R (b + 1) (mix (R (b + 1)) (R (o + 1)) i)) (by omega) (fun a ha => wr_ne ha) (fun q hq => by rw [wr_same]; unfold mix; rw [if_pos (by omega)])
      rw [mix_0, wr_self] at this
      simp (disch := omega) only [q_7_0, q_7_1, q_7_3, q_7_4, q_7_7, q_7_8, q_7_11, q_7_12, q_7_13, q_7_16, q_7_17, q_7_20, q_7_21, q_7_24, q_7_25, q_7_26, q_7_29, q_7_30, q_7_31, q_7_31o, q_7_32, q_7_35, q_7_38, q_7_39, q_7_41, q_7_42, q_7_45, q_7_46, q_7_49, q_7_50, q_7_51, q_7_54, q_7_55, q_7_58, q_7_59, q_7_62, q_7_63, q_7_64, q_7_67, q_7_68, q_7_69, q_7_70, q_7_73, q_7_76, q_7_77, q_7_78, q_7_81, q_7_84, q_7_e, va_rf_s, bz_0, bz_1, bz_ok, bb_ok, Nat.add_assoc, w_lt, w_add, w_sub, w_mul, w_div, em_def, w_eq, w_inT, ↓ilt_t, ↓ilt_f, ↓ieq_t, ↓ieq_f, ntT, w_b, w_ix, kx_v, kx_n, kl_n, kl_i, kl_r, kl_o, inA_i, inA_s, inA_b, inA_z, inA_l, inA_0, inA_4, inA_5, inA_6, inA_7, inA_8, inA_9, inA_10, al_0, al_1, al_2, al_4, al_5, al_98, bsP_2, bsP_3, wr_same, wr_wr, wr_ne, up_same, up_ne, Nat.reduceAdd, Int.reduceAdd, Int.reduceSub, Int.reduceMul, Int.reduceLT, Int.reduceLE, Int.reduceEq, Int.reduceNeg, Int.reduceToNat, Nat.reduceLT, Nat.reduceLeDiff, Nat.reduceEqDiff, ↓reduceIte, true_and, and_true, not_true_eq_false, not_false_eq_true, eq_self, or_true, true_or, or_false, false_or, if_true, if_false, Int.toNat_natCast, w_ite, Nat.add_zero, reduceCtorEq, ne_eq, g0, g1, g2, o0, o1, o2]
      exact this
    | succ j ih =>
      intro i hi
      have ha : aqP (some (.inl (4, 60))) S (R (o + 1) i) (w i) ↔ True := aq4 (hr _ (by omega)) ((w_in (by omega) (by omega)).mpr ⟨by omega, by omega⟩)
      rw [q_7_2]
      simp (disch := omega) only [q_7_0, q_7_1, q_7_3, q_7_4, q_7_7, q_7_8, q_7_11, q_7_12, q_7_13, q_7_16, q_7_17, q_7_20, q_7_21, q_7_24, q_7_25, q_7_26, q_7_29, q_7_30, q_7_31, q_7_31o, q_7_32, q_7_35, q_7_38, q_7_39, q_7_41, q_7_42, q_7_45, q_7_46, q_7_49, q_7_50, q_7_51, q_7_54, q_7_55, q_7_58, q_7_59, q_7_62, q_7_63, q_7_64, q_7_67, q_7_68, q_7_69, q_7_70, q_7_73, q_7_76, q_7_77, q_7_78, q_7_81, q_7_84, q_7_e, va_rf_s, bz_0, bz_1, bz_ok, bb_ok, Nat.add_assoc, w_lt, w_add, w_sub, w_mul, w_div, em_def, w_eq, w_inT, ↓ilt_t, ↓ilt_f, ↓ieq_t, ↓ieq_f, ntT, w_b, w_ix, kx_v, kx_n, kl_n, kl_i, kl_r, kl_o, inA_i, inA_s, inA_b, inA_z, inA_l, inA_0, inA_4, inA_5, inA_6, inA_7, inA_8, inA_9, inA_10, al_0, al_1, al_2, al_4, al_5, al_98, bsP_2, bsP_3, wr_same, wr_wr, wr_ne, up_same, up_ne, Nat.reduceAdd, Int.reduceAdd, Int.reduceSub, Int.reduceMul, Int.reduceLT, Int.reduceLE, Int.reduceEq, Int.reduceNeg, Int.reduceToNat, Nat.reduceLT, Nat.reduceLeDiff, Nat.reduceEqDiff, ↓reduceIte, true_and, and_true, not_true_eq_false, not_false_eq_true, eq_self, or_true, true_or, or_false, false_or, if_true, if_false, Int.toNat_natCast, w_ite, Nat.add_zero, reduceCtorEq, ne_eq, g0, g1, g2, o0, o1, o2, ha]
      have := ih (i + 1) (by omega)
      rw [← mix_s] at this
      simp only [Int.natCast_add, Int.natCast_one] at this
      exact this
  have := lp1 60 0 (by omega)
  rw [mix_0, wr_self] at this
  simp (disch := omega) only [q_7_0, q_7_1, q_7_3, q_7_4, q_7_7, q_7_8, q_7_11, q_7_12, q_7_13, q_7_16, q_7_17, q_7_20, q_7_21, q_7_24, q_7_25, q_7_26, q_7_29, q_7_30, q_7_31, q_7_31o, q_7_32, q_7_35, q_7_38, q_7_39, q_7_41, q_7_42, q_7_45, q_7_46, q_7_49, q_7_50, q_7_51, q_7_54, q_7_55, q_7_58, q_7_59, q_7_62, q_7_63, q_7_64, q_7_67, q_7_68, q_7_69, q_7_70, q_7_73, q_7_76, q_7_77, q_7_78, q_7_81, q_7_84, q_7_e, va_rf_s, bz_0, bz_1, bz_ok, bb_ok, Nat.add_assoc, w_lt, w_add, w_sub, w_mul, w_div, em_def, w_eq, w_inT, ↓ilt_t, ↓ilt_f, ↓ieq_t, ↓ieq_f, ntT, w_b, w_ix, kx_v, kx_n, kl_n, kl_i, kl_r, kl_o, inA_i, inA_s, inA_b, inA_z, inA_l, inA_0, inA_4, inA_5, inA_6, inA_7, inA_8, inA_9, inA_10, al_0, al_1, al_2, al_4, al_5, al_98, bsP_2, bsP_3, wr_same, wr_wr, wr_ne, up_same, up_ne, Nat.reduceAdd, Int.reduceAdd, Int.reduceSub, Int.reduceMul, Int.reduceLT, Int.reduceLE, Int.reduceEq, Int.reduceNeg, Int.reduceToNat, Nat.reduceLT, Nat.reduceLeDiff, Nat.reduceEqDiff, ↓reduceIte, true_and, and_true, not_true_eq_false, not_false_eq_true, eq_self, or_true, true_or, or_false, false_or, if_true, if_false, Int.toNat_natCast, w_ite, Nat.add_zero, reduceCtorEq, ne_eq]
  exact this
end

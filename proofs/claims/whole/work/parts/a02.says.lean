/-! the model says a number -/
def LW : Option Int → Int64
  | none => wl (-9223372036854775808)
  | some q => wl q
def CrM (I : MI) (a : Nat) (x : C4) : Prop := I a 0 = w x.1 ∧ I a 1 = w x.2.1 ∧ I a 2 = w x.2.2.1 ∧ I a 3 = w x.2.2.2
/-- what saying leaves alone -/
def SyF (I I' : MI) (m : Nat) (op : List Int) (base : Nat) : Prop := (∀ x, x ≠ m → x ≠ m + 6541 → x ≠ m + 6542 → (x < m + 6544 ∨ m + 6577 ≤ x) → I' x = I x) ∧ (∀ j, (j < 16 ∨ 19 < j) → I' m j = I m j) ∧ (∀ i, i < op.length → I' (m + 6542) i = I (m + 6542) i) ∧ (∀ i, i < base → I' (m + 6541) i = I (m + 6541) i) ∧ I' m 17 = I m 17
def SyI (I : MI) (m : Nat) (op : List Int) (base : Nat) (a : Int) : Prop := I m 17 = w op.length ∧ Txt (I (m + 6542)) 0 op.reverse ∧ I m 16 = w base ∧ I m 18 = w a ∧ I m 19 = w 0
def SyR (I' : MI) (m base : Nat) (r : SR) (o : Int32) : Prop := match r with
  | .inl x => o = w 1 ∧ I' m 16 = w (base + x.1.length : Nat) ∧ Txt (I' (m + 6541)) base x.1 ∧ I' m 18 = w x.2 ∧ I' m 19 = w 0
  | .inr l => o = w 0 ∧ I' m 19 = w l.length ∧ ∀ i, i < l.length → CrM I' (m + 6544 + (l.length - 1 - i)) (l.getD i c0)
theorem SyF.refl {I : MI} {m : Nat} {op : List Int} {base : Nat} : SyF I I m op base := ⟨fun _ _ _ _ _ => rfl, fun _ _ => rfl, fun _ _ => rfl, fun _ _ => rfl, rfl⟩
theorem SyF.trans {I I1 I2 : MI} {m : Nat} {op op' : List Int} {base base' : Nat} (h : SyF I I1 m op base) (h' : SyF I1 I2 m op' base') (ho : op.length ≤ op'.length) (hb : base ≤ base') : SyF I I2 m op base := by
  obtain ⟨a1, a2, a3, a4, a5⟩ := h
  obtain ⟨b1, b2, b3, b4, b5⟩ := h'
  exact ⟨fun x h1 h2 h3 h4 => (b1 x h1 h2 h3 h4).trans (a1 x h1 h2 h3 h4), fun j hj => (b2 j hj).trans (a2 j hj), fun i hi => (b3 i (by omega)).trans (a3 i hi), fun i hi => (b4 i (by omega)).trans (a4 i hi), b5.trans a5⟩
section
variable {d : Nat} {Q : XO → Hp → Prop} {S : SH} {I : MI} {L : ML} {R : MR} {G : MG} {A : Hp}
variable {m : Nat}
theorem sp_190 {kd n v : Int} (h1 : 1 ≤ kd) (h2 : kd ≤ 5) (n1 : 0 ≤ n) (n2 : n ≤ 999999999) (v1 : 1 ≤ v) (v2 : v ≤ 999999) : XC d 190 [.int (w kd), .int (w n), .int (w v)] A Q ↔ Q (.inl (some (.long (LW (want kd v n))))) A := by
  have hm1 := Int.emod_nonneg n (show v ≠ 0 by omega)
  have hm2 := Int.emod_lt_of_pos n (show 0 < v by omega)
  have hd1 : 0 ≤ n / v := Int.ediv_nonneg n1 (by omega)
  have hd2 : n / v ≤ n := Int.ediv_le_self v n1
  have l1 := w_l (a := n / v) (by omega) (by omega)
  have l2 := w_l (a := n % v) (by omega) (by omega)
  have l3 := w_l (a := n) (by omega) (by omega)
  have l4 := w_l (a := v) (by omega) (by omega)
  have hcs : kd = 1 ∨ kd = 2 ∨ kd = 3 ∨ kd = 4 ∨ kd = 5 := by omega
  unfold want
  simp (disch := omega) only [q_190_0, q_190_1, q_190_36, q_190_37, q_190_38, q_190_39, q_190_40, q_190_41, q_190_42, q_190_43, q_190_44, q_190_47, q_190_50, q_190_53, q_190_54, q_190_55, q_190_56, q_190_57, q_190_58, q_190_59, q_190_60, q_190_61, q_190_62, q_190_63, q_190_64, q_190_65, q_190_66, q_190_67, q_190_68, q_190_69, q_190_70, q_190_71, q_190_72, q_190_73, q_190_74, q_190_75, q_190_78, q_190_e, va_rf_s, bz_0, bz_1, bz_ok, bb_ok, Nat.add_assoc, w_lt, w_add, w_sub, w_mul, w_div, em_def, w_eq, w_inT, ↓ilt_t, ↓ilt_f, ↓ieq_t, ↓ieq_f, ntT, w_b, w_ix, kx_v, kx_n, kl_n, kl_i, kl_r, kl_o, inA_i, inA_s, inA_b, inA_z, inA_l, inA_0, inA_4, inA_5, inA_6, inA_7, inA_8, inA_9, inA_10, al_0, al_1, al_2, al_4, al_5, al_98, bsP_2, bsP_3, wr_same, wr_wr, wr_ne, up_same, up_ne, Nat.reduceAdd, Int.reduceAdd, Int.reduceSub, Int.reduceMul, Int.reduceLT, Int.reduceLE, Int.reduceEq, Int.reduceNeg, Int.reduceToNat, Nat.reduceLT, Nat.reduceLeDiff, Nat.reduceEqDiff, ↓reduceIte, true_and, and_true, not_true_eq_false, not_false_eq_true, eq_self, or_true, true_or, or_false, false_or, if_true, if_false, Int.toNat_natCast, w_ite, Nat.add_zero, reduceCtorEq, ne_eq, w_toInt]
  rcases hcs with e | e | e | e | e
  · subst e
    rw [show swT [36, 41, 58, 63, 69] 75 1 1 = 36 from rfl, if_pos rfl]
    simp (disch := omega) only [q_190_0, q_190_1, q_190_36, q_190_37, q_190_38, q_190_39, q_190_40, q_190_41, q_190_42, q_190_43, q_190_44, q_190_47, q_190_50, q_190_53, q_190_54, q_190_55, q_190_56, q_190_57, q_190_58, q_190_59, q_190_60, q_190_61, q_190_62, q_190_63, q_190_64, q_190_65, q_190_66, q_190_67, q_190_68, q_190_69, q_190_70, q_190_71, q_190_72, q_190_73, q_190_74, q_190_75, q_190_78, q_190_e, va_rf_s, bz_0, bz_1, bz_ok, bb_ok, Nat.add_assoc, w_lt, w_add, w_sub, w_mul, w_div, em_def, w_eq, w_inT, ↓ilt_t, ↓ilt_f, ↓ieq_t, ↓ieq_f, ntT, w_b, w_ix, kx_v, kx_n, kl_n, kl_i, kl_r, kl_o, inA_i, inA_s, inA_b, inA_z, inA_l, inA_0, inA_4, inA_5, inA_6, inA_7, inA_8, inA_9, inA_10, al_0, al_1, al_2, al_4, al_5, al_98, bsP_2, bsP_3, wr_same, wr_wr, wr_ne, up_same, up_ne, Nat.reduceAdd, Int.reduceAdd, Int.reduceSub, Int.reduceMul, Int.reduceLT, Int.reduceLE, Int.reduceEq, Int.reduceNeg, Int.reduceToNat, Nat.reduceLT, Nat.reduceLeDiff, Nat.reduceEqDiff, ↓reduceIte, true_and, and_true, not_true_eq_false, not_false_eq_true, eq_self, or_true, true_or, or_false, false_or, if_true, if_false, Int.toNat_natCast, w_ite, Nat.add_zero, reduceCtorEq, ne_eq, l1]
    exact Iff.rfl
  · subst e
    rw [show swT [36, 41, 58, 63, 69] 75 1 2 = 41 from rfl, if_neg (by decide), if_pos rfl]
    by_cases c : n % v = 0
    · rw [if_pos c]
      simp (disch := omega) only [q_190_0, q_190_1, q_190_36, q_190_37, q_190_38, q_190_39, q_190_40, q_190_41, q_190_42, q_190_43, q_190_44, q_190_47, q_190_50, q_190_53, q_190_54, q_190_55, q_190_56, q_190_57, q_190_58, q_190_59, q_190_60, q_190_61, q_190_62, q_190_63, q_190_64, q_190_65, q_190_66, q_190_67, q_190_68, q_190_69, q_190_70, q_190_71, q_190_72, q_190_73, q_190_74, q_190_75, q_190_78, q_190_e, va_rf_s, bz_0, bz_1, bz_ok, bb_ok, Nat.add_assoc, w_lt, w_add, w_sub, w_mul, w_div, em_def, w_eq, w_inT, ↓ilt_t, ↓ilt_f, ↓ieq_t, ↓ieq_f, ntT, w_b, w_ix, kx_v, kx_n, kl_n, kl_i, kl_r, kl_o, inA_i, inA_s, inA_b, inA_z, inA_l, inA_0, inA_4, inA_5, inA_6, inA_7, inA_8, inA_9, inA_10, al_0, al_1, al_2, al_4, al_5, al_98, bsP_2, bsP_3, wr_same, wr_wr, wr_ne, up_same, up_ne, Nat.reduceAdd, Int.reduceAdd, Int.reduceSub, Int.reduceMul, Int.reduceLT, Int.reduceLE, Int.reduceEq, Int.reduceNeg, Int.reduceToNat, Nat.reduceLT, Nat.reduceLeDiff, Nat.reduceEqDiff, ↓reduceIte, true_and, and_true, not_true_eq_false, not_false_eq_true, eq_self, or_true, true_or, or_false, false_or, if_true, if_false, Int.toNat_natCast, w_ite, Nat.add_zero, reduceCtorEq, ne_eq]
      exact Iff.rfl
    · rw [if_neg c]
      simp (disch := omega) only [q_190_0, q_190_1, q_190_36, q_190_37, q_190_38, q_190_39, q_190_40, q_190_41, q_190_42, q_190_43, q_190_44, q_190_47, q_190_50, q_190_53, q_190_54, q_190_55, q_190_56, q_190_57, q_190_58, q_190_59, q_190_60, q_190_61, q_190_62, q_190_63, q_190_64, q_190_65, q_190_66, q_190_67, q_190_68, q_190_69, q_190_70, q_190_71, q_190_72, q_190_73, q_190_74, q_190_75, q_190_78, q_190_e, va_rf_s, bz_0, bz_1, bz_ok, bb_ok, Nat.add_assoc, w_lt, w_add, w_sub, w_mul, w_div, em_def, w_eq, w_inT, ↓ilt_t, ↓ilt_f, ↓ieq_t, ↓ieq_f, ntT, w_b, w_ix, kx_v, kx_n, kl_n, kl_i, kl_r, kl_o, inA_i, inA_s, inA_b, inA_z, inA_l, inA_0, inA_4, inA_5, inA_6, inA_7, inA_8, inA_9, inA_10, al_0, al_1, al_2, al_4, al_5, al_98, bsP_2, bsP_3, wr_same, wr_wr, wr_ne, up_same, up_ne, Nat.reduceAdd, Int.reduceAdd, Int.reduceSub, Int.reduceMul, Int.reduceLT, Int.reduceLE, Int.reduceEq, Int.reduceNeg, Int.reduceToNat, Nat.reduceLT, Nat.reduceLeDiff, Nat.reduceEqDiff, ↓reduceIte, true_and, and_true, not_true_eq_false, not_false_eq_true, eq_self, or_true, true_or, or_false, false_or, if_true, if_false, Int.toNat_natCast, w_ite, Nat.add_zero, reduceCtorEq, ne_eq, l2]
      exact Iff.rfl
  · subst e
    rw [show swT [36, 41, 58, 63, 69] 75 1 3 = 58 from rfl, if_neg (by decide), if_neg (by decide), if_pos rfl]
    simp (disch := omega) only [q_190_0, q_190_1, q_190_36, q_190_37, q_190_38, q_190_39, q_190_40, q_190_41, q_190_42, q_190_43, q_190_44, q_190_47, q_190_50, q_190_53, q_190_54, q_190_55, q_190_56, q_190_57, q_190_58, q_190_59, q_190_60, q_190_61, q_190_62, q_190_63, q_190_64, q_190_65, q_190_66, q_190_67, q_190_68, q_190_69, q_190_70, q_190_71, q_190_72, q_190_73, q_190_74, q_190_75, q_190_78, q_190_e, va_rf_s, bz_0, bz_1, bz_ok, bb_ok, Nat.add_assoc, w_lt, w_add, w_sub, w_mul, w_div, em_def, w_eq, w_inT, ↓ilt_t, ↓ilt_f, ↓ieq_t, ↓ieq_f, ntT, w_b, w_ix, kx_v, kx_n, kl_n, kl_i, kl_r, kl_o, inA_i, inA_s, inA_b, inA_z, inA_l, inA_0, inA_4, inA_5, inA_6, inA_7, inA_8, inA_9, inA_10, al_0, al_1, al_2, al_4, al_5, al_98, bsP_2, bsP_3, wr_same, wr_wr, wr_ne, up_same, up_ne, Nat.reduceAdd, Int.reduceAdd, Int.reduceSub, Int.reduceMul, Int.reduceLT, Int.reduceLE, Int.reduceEq, Int.reduceNeg, Int.reduceToNat, Nat.reduceLT, Nat.reduceLeDiff, Nat.reduceEqDiff, ↓reduceIte, true_and, and_true, not_true_eq_false, not_false_eq_true, eq_self, or_true, true_or, or_false, false_or, if_true, if_false, Int.toNat_natCast, w_ite, Nat.add_zero, reduceCtorEq, ne_eq, l2]
    exact Iff.rfl
  · subst e
    rw [show swT [36, 41, 58, 63, 69] 75 1 4 = 63 from rfl, if_neg (by decide), if_neg (by decide), if_neg (by decide), if_pos rfl]
    simp (disch := omega) only [q_190_0, q_190_1, q_190_36, q_190_37, q_190_38, q_190_39, q_190_40, q_190_41, q_190_42, q_190_43, q_190_44, q_190_47, q_190_50, q_190_53, q_190_54, q_190_55, q_190_56, q_190_57, q_190_58, q_190_59, q_190_60, q_190_61, q_190_62, q_190_63, q_190_64, q_190_65, q_190_66, q_190_67, q_190_68, q_190_69, q_190_70, q_190_71, q_190_72, q_190_73, q_190_74, q_190_75, q_190_78, q_190_e, va_rf_s, bz_0, bz_1, bz_ok, bb_ok, Nat.add_assoc, w_lt, w_add, w_sub, w_mul, w_div, em_def, w_eq, w_inT, ↓ilt_t, ↓ilt_f, ↓ieq_t, ↓ieq_f, ntT, w_b, w_ix, kx_v, kx_n, kl_n, kl_i, kl_r, kl_o, inA_i, inA_s, inA_b, inA_z, inA_l, inA_0, inA_4, inA_5, inA_6, inA_7, inA_8, inA_9, inA_10, al_0, al_1, al_2, al_4, al_5, al_98, bsP_2, bsP_3, wr_same, wr_wr, wr_ne, up_same, up_ne, Nat.reduceAdd, Int.reduceAdd, Int.reduceSub, Int.reduceMul, Int.reduceLT, Int.reduceLE, Int.reduceEq, Int.reduceNeg, Int.reduceToNat, Nat.reduceLT, Nat.reduceLeDiff, Nat.reduceEqDiff, ↓reduceIte, true_and, and_true, not_true_eq_false, not_false_eq_true, eq_self, or_true, true_or, or_false, false_or, if_true, if_false, Int.toNat_natCast, w_ite, Nat.add_zero, reduceCtorEq, ne_eq, l3, l4, wl_sub]
    exact Iff.rfl
  · subst e
    rw [show swT [36, 41, 58, 63, 69] 75 1 5 = 69 from rfl, if_neg (by decide), if_neg (by decide), if_neg (by decide), if_neg (by decide)]
    simp (disch := omega) only [q_190_0, q_190_1, q_190_36, q_190_37, q_190_38, q_190_39, q_190_40, q_190_41, q_190_42, q_190_43, q_190_44, q_190_47, q_190_50, q_190_53, q_190_54, q_190_55, q_190_56, q_190_57, q_190_58, q_190_59, q_190_60, q_190_61, q_190_62, q_190_63, q_190_64, q_190_65, q_190_66, q_190_67, q_190_68, q_190_69, q_190_70, q_190_71, q_190_72, q_190_73, q_190_74, q_190_75, q_190_78, q_190_e, va_rf_s, bz_0, bz_1, bz_ok, bb_ok, Nat.add_assoc, w_lt, w_add, w_sub, w_mul, w_div, em_def, w_eq, w_inT, ↓ilt_t, ↓ilt_f, ↓ieq_t, ↓ieq_f, ntT, w_b, w_ix, kx_v, kx_n, kl_n, kl_i, kl_r, kl_o, inA_i, inA_s, inA_b, inA_z, inA_l, inA_0, inA_4, inA_5, inA_6, inA_7, inA_8, inA_9, inA_10, al_0, al_1, al_2, al_4, al_5, al_98, bsP_2, bsP_3, wr_same, wr_wr, wr_ne, up_same, up_ne, Nat.reduceAdd, Int.reduceAdd, Int.reduceSub, Int.reduceMul, Int.reduceLT, Int.reduceLE, Int.reduceEq, Int.reduceNeg, Int.reduceToNat, Nat.reduceLT, Nat.reduceLeDiff, Nat.reduceEqDiff, ↓reduceIte, true_and, and_true, not_true_eq_false, not_false_eq_true, eq_self, or_true, true_or, or_false, false_or, if_true, if_false, Int.toNat_natCast, w_ite, Nat.add_zero, reduceCtorEq, ne_eq, l3, l4, wl_add]
    exact Iff.rfl
theorem sp_188 {c : Nat} {n e k i : Int} (h : MLay S R m) (hc : c < 33) (h19 : I m 19 = w c)
    (hQ : ∀ I' : MI, (∀ a, a ≠ m → a ≠ m + 6544 + c → I' a = I a) → (∀ j, j ≠ 19 → I' m j = I m j) → I' m 19 = w (c + 1 : Nat) → CrM I' (m + 6544 + c) (n, e, k, i) → Q (.inl (some (.int (w 0)))) (mk S I' L R G)) :
    XC d 188 [.ref m, .int (w n), .int (w e), .int (w k), .int (w i)] (mk S I L R G) Q := by
  obtain ⟨g0, g1, g2, g3, g4, g5, g6, ⟨y1, y2, y3, y4⟩, -⟩ := h
  obtain ⟨r1, r2⟩ := y4 c hc
  obtain ⟨a, ea⟩ : ∃ a, a = m + 6544 + c := ⟨_, rfl⟩
  rw [← ea] at r1 r2 hQ
  simp (disch := omega) only [q_188_0, q_188_1, q_188_4, q_188_5, q_188_8, q_188_9, q_188_10, q_188_11, q_188_12, q_188_13, q_188_16, q_188_17, q_188_20, q_188_21, q_188_22, q_188_23, q_188_24, q_188_25, q_188_28, q_188_29, q_188_32, q_188_33, q_188_34, q_188_35, q_188_36, q_188_37, q_188_40, q_188_41, q_188_44, q_188_45, q_188_46, q_188_48, q_188_49, q_188_50, q_188_51, q_188_54, q_188_55, q_188_56, q_188_59, q_188_60, q_188_e, va_rf_s, bz_0, bz_1, bz_ok, bb_ok, Nat.add_assoc, w_lt, w_add, w_sub, w_mul, w_div, em_def, w_eq, w_inT, ↓ilt_t, ↓ilt_f, ↓ieq_t, ↓ieq_f, ntT, w_b, w_ix, kx_v, kx_n, kl_n, kl_i, kl_r, kl_o, inA_i, inA_s, inA_b, inA_z, inA_l, inA_0, inA_4, inA_5, inA_6, inA_7, inA_8, inA_9, inA_10, al_0, al_1, al_2, al_4, al_5, al_98, bsP_2, bsP_3, wr_same, wr_wr, wr_ne, up_same, up_ne, Nat.reduceAdd, Int.reduceAdd, Int.reduceSub, Int.reduceMul, Int.reduceLT, Int.reduceLE, Int.reduceEq, Int.reduceNeg, Int.reduceToNat, Nat.reduceLT, Nat.reduceLeDiff, Nat.reduceEqDiff, ↓reduceIte, true_and, and_true, not_true_eq_false, not_false_eq_true, eq_self, or_true, true_or, or_false, false_or, if_true, if_false, Int.toNat_natCast, w_ite, Nat.add_zero, reduceCtorEq, ne_eq, g0, y3, r1, r2, h19]
  refine hQ _ (fun b h1 h2 => ?_) (fun j hj => ?_) ?_ ?_
  · simp (disch := omega) only [wr_ne]
  · simp (disch := omega) only [wr_ne, wr_same, up_ne]
  · simp (disch := omega) only [wr_ne, wr_same, up_same]
    congr 1
  · refine ⟨?_, ?_, ?_, ?_⟩ <;> simp (disch := omega) only [wr_ne, wr_same, up_same, up_ne]
theorem sp_189 {n : Int} {op : List Int} (h : MLay S R m) (hop : op.length ≤ 30) (h17 : I m 17 = w op.length) (hT : Txt (I (m + 6542)) 0 op.reverse) (hn : B32 n) (hb : ∀ y ∈ op, B32 y) : XC d 189 [.ref m, .int (w n)] (mk S I L R G) Q ↔ Q (.inl (some (.int (bz (decide (n ∈ op)))))) (mk S I L R G) := by
  obtain ⟨g0, g1, g2, g3, g4, g5, g6, ⟨y1, y2, y3, y4⟩, -⟩ := h
  have hlr : op.reverse.length = op.length := List.length_reverse
  have lp : ∀ (j i : Nat), i + j = op.length → (XX d 189 2 [some (.ref m), some (.int (w n)), some (.int (w i))] [] (mk S I L R G) Q ↔ Q (.inl (some (.int (bz (decide (n ∈ op.reverse.drop i)))))) (mk S I L R G)) := by
    intro j
    induction j with
    | zero =>
      intro i hi
      rw [q_189_2, List.drop_eq_nil_of_le (by omega)]
      simp (disch := omega) only [q_189_0, q_189_1, q_189_3, q_189_4, q_189_7, q_189_10, q_189_11, q_189_14, q_189_15, q_189_16, q_189_17, q_189_20, q_189_21, q_189_22, q_189_25, q_189_28, q_189_29, q_189_e, va_rf_s, bz_0, bz_1, bz_ok, bb_ok, Nat.add_assoc, w_lt, w_add, w_sub, w_mul, w_div, em_def, w_eq, w_inT, ↓ilt_t, ↓ilt_f, ↓ieq_t, ↓ieq_f, ntT, w_b, w_ix, kx_v, kx_n, kl_n, kl_i, kl_r, kl_o, inA_i, inA_s, inA_b, inA_z, inA_l, inA_0, inA_4, inA_5, inA_6, inA_7, inA_8, inA_9, inA_10, al_0, al_1, al_2, al_4, al_5, al_98, bsP_2, bsP_3, wr_same, wr_wr, wr_ne, up_same, up_ne, Nat.reduceAdd, Int.reduceAdd, Int.reduceSub, Int.reduceMul, Int.reduceLT, Int.reduceLE, Int.reduceEq, Int.reduceNeg, Int.reduceToNat, Nat.reduceLT, Nat.reduceLeDiff, Nat.reduceEqDiff, ↓reduceIte, true_and, and_true, not_true_eq_false, not_false_eq_true, eq_self, or_true, true_or, or_false, false_or, if_true, if_false, Int.toNat_natCast, w_ite, Nat.add_zero, reduceCtorEq, ne_eq, g0, h17, List.not_mem_nil, decide_false]
      exact Iff.rfl
    | succ j ih =>
      intro i hi
      have hil : i < op.reverse.length := by omega
      have e := hT i hil
      rw [Nat.zero_add] at e
      have hg : op.reverse.getD i 0 = op.reverse[i] := by rw [List.getD_eq_getElem?_getD, List.getElem?_eq_getElem hil]; rfl
      have hby := hb op.reverse[i] (List.mem_reverse.mp (List.getElem_mem hil))
      rw [hg] at e
      have ih' := ih (i + 1) (by omega)
      simp only [Int.natCast_add, Int.natCast_one] at ih'
      rw [List.drop_eq_getElem_cons hil]
      rw [q_189_2]
      by_cases c0 : op.reverse[i] = n
      · simp (disch := omega) only [q_189_0, q_189_1, q_189_3, q_189_4, q_189_7, q_189_10, q_189_11, q_189_14, q_189_15, q_189_16, q_189_17, q_189_20, q_189_21, q_189_22, q_189_25, q_189_28, q_189_29, q_189_e, va_rf_s, bz_0, bz_1, bz_ok, bb_ok, Nat.add_assoc, w_lt, w_add, w_sub, w_mul, w_div, em_def, w_eq, w_inT, ↓ilt_t, ↓ilt_f, ↓ieq_t, ↓ieq_f, ntT, w_b, w_ix, kx_v, kx_n, kl_n, kl_i, kl_r, kl_o, inA_i, inA_s, inA_b, inA_z, inA_l, inA_0, inA_4, inA_5, inA_6, inA_7, inA_8, inA_9, inA_10, al_0, al_1, al_2, al_4, al_5, al_98, bsP_2, bsP_3, wr_same, wr_wr, wr_ne, up_same, up_ne, Nat.reduceAdd, Int.reduceAdd, Int.reduceSub, Int.reduceMul, Int.reduceLT, Int.reduceLE, Int.reduceEq, Int.reduceNeg, Int.reduceToNat, Nat.reduceLT, Nat.reduceLeDiff, Nat.reduceEqDiff, ↓reduceIte, true_and, and_true, not_true_eq_false, not_false_eq_true, eq_self, or_true, true_or, or_false, false_or, if_true, if_false, Int.toNat_natCast, w_ite, Nat.add_zero, reduceCtorEq, ne_eq, g0, h17, y2, e]
        rw [decide_eq_true (by rw [c0]; exact List.mem_cons_self ..)]
        exact Iff.rfl
      · simp (disch := omega) only [q_189_0, q_189_1, q_189_3, q_189_4, q_189_7, q_189_10, q_189_11, q_189_14, q_189_15, q_189_16, q_189_17, q_189_20, q_189_21, q_189_22, q_189_25, q_189_28, q_189_29, q_189_e, va_rf_s, bz_0, bz_1, bz_ok, bb_ok, Nat.add_assoc, w_lt, w_add, w_sub, w_mul, w_div, em_def, w_eq, w_inT, ↓ilt_t, ↓ilt_f, ↓ieq_t, ↓ieq_f, ntT, w_b, w_ix, kx_v, kx_n, kl_n, kl_i, kl_r, kl_o, inA_i, inA_s, inA_b, inA_z, inA_l, inA_0, inA_4, inA_5, inA_6, inA_7, inA_8, inA_9, inA_10, al_0, al_1, al_2, al_4, al_5, al_98, bsP_2, bsP_3, wr_same, wr_wr, wr_ne, up_same, up_ne, Nat.reduceAdd, Int.reduceAdd, Int.reduceSub, Int.reduceMul, Int.reduceLT, Int.reduceLE, Int.reduceEq, Int.reduceNeg, Int.reduceToNat, Nat.reduceLT, Nat.reduceLeDiff, Nat.reduceEqDiff, ↓reduceIte, true_and, and_true, not_true_eq_false, not_false_eq_true, eq_self, or_true, true_or, or_false, false_or, if_true, if_false, Int.toNat_natCast, w_ite, Nat.add_zero, reduceCtorEq, ne_eq, g0, h17, y2, e]
        rw [ih']
        have : (n ∈ op.reverse[i] :: op.reverse.drop (i + 1)) ↔ n ∈ op.reverse.drop (i + 1) := by
          rw [List.mem_cons]
          exact ⟨fun h => h.resolve_left (fun e => c0 e.symm), Or.inr⟩
        simp only [this]
  have := lp op.length 0 (by omega)
  rw [List.drop_zero] at this
  simp only [List.mem_reverse, Int.natCast_zero] at this
  simp (disch := omega) only [q_189_0, q_189_1, q_189_3, q_189_4, q_189_7, q_189_10, q_189_11, q_189_14, q_189_15, q_189_16, q_189_17, q_189_20, q_189_21, q_189_22, q_189_25, q_189_28, q_189_29, q_189_e, va_rf_s, bz_0, bz_1, bz_ok, bb_ok, Nat.add_assoc, w_lt, w_add, w_sub, w_mul, w_div, em_def, w_eq, w_inT, ↓ilt_t, ↓ilt_f, ↓ieq_t, ↓ieq_f, ntT, w_b, w_ix, kx_v, kx_n, kl_n, kl_i, kl_r, kl_o, inA_i, inA_s, inA_b, inA_z, inA_l, inA_0, inA_4, inA_5, inA_6, inA_7, inA_8, inA_9, inA_10, al_0, al_1, al_2, al_4, al_5, al_98, bsP_2, bsP_3, wr_same, wr_wr, wr_ne, up_same, up_ne, Nat.reduceAdd, Int.reduceAdd, Int.reduceSub, Int.reduceMul, Int.reduceLT, Int.reduceLE, Int.reduceEq, Int.reduceNeg, Int.reduceToNat, Nat.reduceLT, Nat.reduceLeDiff, Nat.reduceEqDiff, ↓reduceIte, true_and, and_true, not_true_eq_false, not_false_eq_true, eq_self, or_true, true_or, or_false, false_or, if_true, if_false, Int.toNat_natCast, w_ite, Nat.add_zero, reduceCtorEq, ne_eq]
  exact this
end

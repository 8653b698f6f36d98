/-! the law's helpers -/
theorem rText_E {s : St} {n z : Int} {E : Nat} (h : (rText s n z).1 = .inr E) : E = 1 := by
  unfold rText at h
  repeat' (split at h)
  all_goals first | (unfold rMiss at h; cases h; rfl) | (unfold rWron at h; cases h; rfl) | cases h
theorem rLimit_E {s : St} {v : Int} {E : Nat} (h : (rLimit s v).1 = .inr E) : E = 1 := by
  unfold rLimit at h
  repeat' (split at h)
  all_goals first | (unfold rMiss at h; cases h; decide) | (unfold rWron at h; cases h; decide) | cases h
theorem rTold_E {s : St} {x : Int} {E : Nat} (h : (rTold s x).1 = .inr E) : E = 1 := by
  unfold rTold at h
  repeat' (split at h)
  all_goals first | (unfold rMiss at h; cases h; decide) | (unfold rWron at h; cases h; decide) | cases h
theorem rDrop_E {s : St} {l q : Int} {E : Nat} (h : (rDrop s l q).1 = .inr E) : E = 0 := by
  unfold rDrop at h
  repeat' (split at h)
  all_goals first | (unfold rMiss at h; cases h; decide) | (unfold rWron at h; cases h; decide) | cases h
theorem rHeard_E {s : St} {l n : Int} {E : Nat} (h : (rHeard s l n).1 = .inr E) : E = 0 := by
  unfold rHeard at h
  repeat' (split at h)
  all_goals first | (unfold rMiss at h; cases h; decide) | (unfold rWron at h; cases h; decide) | cases h
theorem rRise_E {s : St} {l q : Int} {E : Nat} (h : (rRise s l q).1 = .inr E) : E < 2 := by
  unfold rRise at h
  repeat' (split at h)
  all_goals first | (unfold rMiss at h; cases h; decide) | (unfold rWron at h; cases h; decide) | cases h
theorem rRule_E {s : St} {l q x : Int} {E : Nat} (h : (rRule s l q x).1 = .inr E) : E < 2 := by
  unfold rRule at h
  repeat' (split at h)
  all_goals first | (unfold rMiss at h; cases h; decide) | (unfold rWron at h; cases h; decide) | cases h
theorem rItem_E {s : St} {l q i x : Int} {E : Nat} (h : (rItem s l q i x).1 = .inr E) : E < 2 := by
  unfold rItem at h
  repeat' (split at h)
  all_goals first | (unfold rMiss at h; cases h; decide) | (unfold rWron at h; cases h; decide) | cases h
theorem rFits_E {s : St} {l n : Int} {E : Nat} (h : (rFits s l n).1 = .inr E) : E < 2 := by
  unfold rFits at h
  repeat' (split at h)
  all_goals first | (unfold rMiss at h; cases h; decide) | (unfold rWron at h; cases h; decide) | cases h
theorem rCause_E {s : St} {l n q x : Int} {E : Nat} (h : (rCause s l n q x).1 = .inr E) : E < 2 := by
  unfold rCause at h
  repeat' (split at h)
  all_goals first | (unfold rMiss at h; cases h; decide) | (unfold rWron at h; cases h; decide) | cases h
theorem rRead_E {s : St} {l n x : Int} {E : Nat} (h : (rRead s l n x).1 = .inr E) : E < 2 := by
  unfold rRead at h
  repeat' (split at h)
  all_goals first | (unfold rMiss at h; cases h; decide) | (unfold rWron at h; cases h; decide) | cases h
theorem rWays_E {s : St} {l n x : Int} {E : Nat} (h : (rWays s l n x).1 = .inr E) : E < 2 := by
  unfold rWays at h
  repeat' (split at h)
  all_goals first | (unfold rMiss at h; cases h; decide) | (unfold rWron at h; cases h; decide) | cases h
theorem rWay_E {s : St} {l n q x : Int} {E : Nat} (h : (rWay s l n q x).1 = .inr E) : E < 2 := by
  unfold rWay at h
  repeat' (split at h)
  all_goals first | (unfold rMiss at h; cases h; decide) | (unfold rWron at h; cases h; decide) | cases h
theorem rStr_E {s : St} {l n : Int} {E : Nat} (h : (rStr s l n).1 = .inr E) : E < 2 := by
  unfold rStr at h
  repeat' (split at h)
  all_goals first | (unfold rMiss at h; cases h; decide) | (unfold rWron at h; cases h; decide) | cases h
theorem rLg_E {s : St} {l : Int} {f : List Rl → Int} {E : Nat} (h : (rLg s l f).1 = .inr E) : E = 0 := by
  unfold rLg at h
  repeat' (split at h)
  all_goals first | (unfold rMiss at h; cases h; rfl) | (unfold rWron at h; cases h; rfl) | cases h
theorem rLx_E {s : St} {l x mx : Int} {f : List Rl → Int} {E : Nat} (h : (rLx s l x mx f).1 = .inr E) : E < 2 := by
  unfold rLx at h
  repeat' (split at h)
  all_goals first | (unfold rMiss at h; cases h; decide) | (unfold rWron at h; cases h; decide) | cases h
def HK (S : SH) (I : MI) (G : MG) (c : Nat) (s2 : St) (Q : XO → Hp → Prop) (two : Bool) (r : Res) : Prop := ∀ (S' : SH) (I' : MI) (L' : ML) (R' : MR) (G' : MG) (z : Int), LB S' I' L' R' G' c r.2 s2 → LFr S I G c S' I' G' 1 → (match r.1 with | .inl v => z = 0 ∧ L' (c + 6799) 0 = (w v).toInt64 | .inr E => z = tcode two E) → Q (.inl (some (.int (w z)))) (mk S' I' L' R' G')
section
variable {d : Nat} {Q : XO → Hp → Prop} {S : SH} {I : MI} {L : ML} {R : MR} {G : MG} {A : Hp}
variable {c : Nat} {s1 s2 : St}
theorem sp_240 {n : Int} (h : LB S I L R G c s1 s2) (hf : few s1) (hn : B32 n) (hQ : HK S I G c s2 Q false (rText s1 n 0)) : XC (d + 73) 240 [.ref c, .int (w n), .ref (c + 6799)] (mk S I L R G) Q := by
  have hc := h.1.1.1
  simp (disch := omega) only [q_240_0, q_240_1, q_240_2, q_240_3, q_240_4, q_240_7, q_240_8, q_240_9, q_240_12, q_240_13, q_240_14, q_240_15, q_240_16, q_240_e, va_rf_s, bz_0, bz_1, bz_ok, bb_ok, Nat.add_assoc, w_lt, w_add, w_sub, w_mul, w_div, em_def, w_eq, w_inT, ↓ilt_t, ↓ilt_f, ↓ieq_t, ↓ieq_f, ntT, w_b, w_ix, kx_v, kx_n, kl_n, kl_i, kl_r, kl_o, inA_i, inA_s, inA_b, inA_z, inA_l, inA_0, inA_4, inA_5, inA_6, inA_7, inA_8, inA_9, inA_10, al_0, al_1, al_2, al_4, al_5, al_98, bsP_2, bsP_3, wr_same, wr_wr, wr_ne, up_same, up_ne, Nat.reduceAdd, Int.reduceAdd, Int.reduceSub, Int.reduceMul, Int.reduceLT, Int.reduceLE, Int.reduceEq, Int.reduceNeg, Int.reduceToNat, Nat.reduceLT, Nat.reduceLeDiff, Nat.reduceEqDiff, ↓reduceIte, true_and, and_true, not_true_eq_false, not_false_eq_true, eq_self, or_true, true_or, or_false, false_or, if_true, if_false, Int.toNat_natCast, w_ite, Nat.add_zero, reduceCtorEq, ne_eq, hc]
  refine sp_106 h.1 hf (h.2.2.2.1.up (by omega)) hn (fun S' I' L' R' G' hC hF => ?_)
  obtain ⟨h', hL⟩ := h.cls hC hF
  have ho := h'.2.2.1
  cases hr : (rText s1 n 0).1 with
  | inl v =>
    have := hQ S' I' (wr L' (c + 6799) (up (L' (c + 6799)) 0 (w v).toInt64)) R' G' 0 (h'.out _) hL (by rw [hr]; exact ⟨rfl, by rw [wr_same, up_same]⟩)
    unfold outX
    simp (disch := omega) only [q_240_0, q_240_1, q_240_2, q_240_3, q_240_4, q_240_7, q_240_8, q_240_9, q_240_12, q_240_13, q_240_14, q_240_15, q_240_16, q_240_e, va_rf_s, bz_0, bz_1, bz_ok, bb_ok, Nat.add_assoc, w_lt, w_add, w_sub, w_mul, w_div, em_def, w_eq, w_inT, ↓ilt_t, ↓ilt_f, ↓ieq_t, ↓ieq_f, ntT, w_b, w_ix, kx_v, kx_n, kl_n, kl_i, kl_r, kl_o, inA_i, inA_s, inA_b, inA_z, inA_l, inA_0, inA_4, inA_5, inA_6, inA_7, inA_8, inA_9, inA_10, al_0, al_1, al_2, al_4, al_5, al_98, bsP_2, bsP_3, wr_same, wr_wr, wr_ne, up_same, up_ne, Nat.reduceAdd, Int.reduceAdd, Int.reduceSub, Int.reduceMul, Int.reduceLT, Int.reduceLE, Int.reduceEq, Int.reduceNeg, Int.reduceToNat, Nat.reduceLT, Nat.reduceLeDiff, Nat.reduceEqDiff, ↓reduceIte, true_and, and_true, not_true_eq_false, not_false_eq_true, eq_self, or_true, true_or, or_false, false_or, if_true, if_false, Int.toNat_natCast, w_ite, Nat.add_zero, reduceCtorEq, ne_eq, ho]
    exact this
  | inr E =>
    have hE := rText_E hr
    have := hQ S' I' L' R' G' (tcode false E) h' hL (by rw [hr])
    unfold outX
    subst hE
    rw [kx_h (h := 12) rfl rfl (Nat.le_of_ble_eq_true rfl)]
    show XX (d + 73) 240 13 [some (.ref c), some (.int (w n)), some (.ref (c + 6799)), none] [] (mk S' I' L' R' G') Q
    simp (disch := omega) only [q_240_0, q_240_1, q_240_2, q_240_3, q_240_4, q_240_7, q_240_8, q_240_9, q_240_12, q_240_13, q_240_14, q_240_15, q_240_16, q_240_e, va_rf_s, bz_0, bz_1, bz_ok, bb_ok, Nat.add_assoc, w_lt, w_add, w_sub, w_mul, w_div, em_def, w_eq, w_inT, ↓ilt_t, ↓ilt_f, ↓ieq_t, ↓ieq_f, ntT, w_b, w_ix, kx_v, kx_n, kl_n, kl_i, kl_r, kl_o, inA_i, inA_s, inA_b, inA_z, inA_l, inA_0, inA_4, inA_5, inA_6, inA_7, inA_8, inA_9, inA_10, al_0, al_1, al_2, al_4, al_5, al_98, bsP_2, bsP_3, wr_same, wr_wr, wr_ne, up_same, up_ne, Nat.reduceAdd, Int.reduceAdd, Int.reduceSub, Int.reduceMul, Int.reduceLT, Int.reduceLE, Int.reduceEq, Int.reduceNeg, Int.reduceToNat, Nat.reduceLT, Nat.reduceLeDiff, Nat.reduceEqDiff, ↓reduceIte, true_and, and_true, not_true_eq_false, not_false_eq_true, eq_self, or_true, true_or, or_false, false_or, if_true, if_false, Int.toNat_natCast, w_ite, Nat.add_zero, reduceCtorEq, ne_eq]
    exact this
theorem sp_241 {n : Int} (h : LB S I L R G c s1 s2) (hf : few s1) (hn : B32 n) (hQ : HK S I G c s2 Q false (rText s1 n 1)) : XC (d + 73) 241 [.ref c, .int (w n), .ref (c + 6799)] (mk S I L R G) Q := by
  have hc := h.1.1.1
  simp (disch := omega) only [q_241_0, q_241_1, q_241_2, q_241_3, q_241_4, q_241_7, q_241_8, q_241_9, q_241_12, q_241_13, q_241_14, q_241_15, q_241_16, q_241_e, va_rf_s, bz_0, bz_1, bz_ok, bb_ok, Nat.add_assoc, w_lt, w_add, w_sub, w_mul, w_div, em_def, w_eq, w_inT, ↓ilt_t, ↓ilt_f, ↓ieq_t, ↓ieq_f, ntT, w_b, w_ix, kx_v, kx_n, kl_n, kl_i, kl_r, kl_o, inA_i, inA_s, inA_b, inA_z, inA_l, inA_0, inA_4, inA_5, inA_6, inA_7, inA_8, inA_9, inA_10, al_0, al_1, al_2, al_4, al_5, al_98, bsP_2, bsP_3, wr_same, wr_wr, wr_ne, up_same, up_ne, Nat.reduceAdd, Int.reduceAdd, Int.reduceSub, Int.reduceMul, Int.reduceLT, Int.reduceLE, Int.reduceEq, Int.reduceNeg, Int.reduceToNat, Nat.reduceLT, Nat.reduceLeDiff, Nat.reduceEqDiff, ↓reduceIte, true_and, and_true, not_true_eq_false, not_false_eq_true, eq_self, or_true, true_or, or_false, false_or, if_true, if_false, Int.toNat_natCast, w_ite, Nat.add_zero, reduceCtorEq, ne_eq, hc]
  refine sp_108 h.1 hf (h.2.2.2.1.up (by omega)) hn (fun S' I' L' R' G' hC hF => ?_)
  obtain ⟨h', hL⟩ := h.cls hC hF
  have ho := h'.2.2.1
  cases hr : (rText s1 n 1).1 with
  | inl v =>
    have := hQ S' I' (wr L' (c + 6799) (up (L' (c + 6799)) 0 (w v).toInt64)) R' G' 0 (h'.out _) hL (by rw [hr]; exact ⟨rfl, by rw [wr_same, up_same]⟩)
    unfold outX
    simp (disch := omega) only [q_241_0, q_241_1, q_241_2, q_241_3, q_241_4, q_241_7, q_241_8, q_241_9, q_241_12, q_241_13, q_241_14, q_241_15, q_241_16, q_241_e, va_rf_s, bz_0, bz_1, bz_ok, bb_ok, Nat.add_assoc, w_lt, w_add, w_sub, w_mul, w_div, em_def, w_eq, w_inT, ↓ilt_t, ↓ilt_f, ↓ieq_t, ↓ieq_f, ntT, w_b, w_ix, kx_v, kx_n, kl_n, kl_i, kl_r, kl_o, inA_i, inA_s, inA_b, inA_z, inA_l, inA_0, inA_4, inA_5, inA_6, inA_7, inA_8, inA_9, inA_10, al_0, al_1, al_2, al_4, al_5, al_98, bsP_2, bsP_3, wr_same, wr_wr, wr_ne, up_same, up_ne, Nat.reduceAdd, Int.reduceAdd, Int.reduceSub, Int.reduceMul, Int.reduceLT, Int.reduceLE, Int.reduceEq, Int.reduceNeg, Int.reduceToNat, Nat.reduceLT, Nat.reduceLeDiff, Nat.reduceEqDiff, ↓reduceIte, true_and, and_true, not_true_eq_false, not_false_eq_true, eq_self, or_true, true_or, or_false, false_or, if_true, if_false, Int.toNat_natCast, w_ite, Nat.add_zero, reduceCtorEq, ne_eq, ho]
    exact this
  | inr E =>
    have hE := rText_E hr
    have := hQ S' I' L' R' G' (tcode false E) h' hL (by rw [hr])
    unfold outX
    subst hE
    rw [kx_h (h := 12) rfl rfl (Nat.le_of_ble_eq_true rfl)]
    show XX (d + 73) 241 13 [some (.ref c), some (.int (w n)), some (.ref (c + 6799)), none] [] (mk S' I' L' R' G') Q
    simp (disch := omega) only [q_241_0, q_241_1, q_241_2, q_241_3, q_241_4, q_241_7, q_241_8, q_241_9, q_241_12, q_241_13, q_241_14, q_241_15, q_241_16, q_241_e, va_rf_s, bz_0, bz_1, bz_ok, bb_ok, Nat.add_assoc, w_lt, w_add, w_sub, w_mul, w_div, em_def, w_eq, w_inT, ↓ilt_t, ↓ilt_f, ↓ieq_t, ↓ieq_f, ntT, w_b, w_ix, kx_v, kx_n, kl_n, kl_i, kl_r, kl_o, inA_i, inA_s, inA_b, inA_z, inA_l, inA_0, inA_4, inA_5, inA_6, inA_7, inA_8, inA_9, inA_10, al_0, al_1, al_2, al_4, al_5, al_98, bsP_2, bsP_3, wr_same, wr_wr, wr_ne, up_same, up_ne, Nat.reduceAdd, Int.reduceAdd, Int.reduceSub, Int.reduceMul, Int.reduceLT, Int.reduceLE, Int.reduceEq, Int.reduceNeg, Int.reduceToNat, Nat.reduceLT, Nat.reduceLeDiff, Nat.reduceEqDiff, ↓reduceIte, true_and, and_true, not_true_eq_false, not_false_eq_true, eq_self, or_true, true_or, or_false, false_or, if_true, if_false, Int.toNat_natCast, w_ite, Nat.add_zero, reduceCtorEq, ne_eq]
    exact this
theorem sp_242 {v : Int} (h : LB S I L R G c s1 s2) (hf : few s1) (hv : B32 v) (hQ : HK S I G c s2 Q false (rLimit s1 v)) : XC (d + 73) 242 [.ref c, .int (w v), .ref (c + 6799)] (mk S I L R G) Q := by
  have hc := h.1.1.1
  simp (disch := omega) only [q_242_0, q_242_1, q_242_2, q_242_3, q_242_4, q_242_7, q_242_8, q_242_9, q_242_12, q_242_13, q_242_14, q_242_15, q_242_16, q_242_e, va_rf_s, bz_0, bz_1, bz_ok, bb_ok, Nat.add_assoc, w_lt, w_add, w_sub, w_mul, w_div, em_def, w_eq, w_inT, ↓ilt_t, ↓ilt_f, ↓ieq_t, ↓ieq_f, ntT, w_b, w_ix, kx_v, kx_n, kl_n, kl_i, kl_r, kl_o, inA_i, inA_s, inA_b, inA_z, inA_l, inA_0, inA_4, inA_5, inA_6, inA_7, inA_8, inA_9, inA_10, al_0, al_1, al_2, al_4, al_5, al_98, bsP_2, bsP_3, wr_same, wr_wr, wr_ne, up_same, up_ne, Nat.reduceAdd, Int.reduceAdd, Int.reduceSub, Int.reduceMul, Int.reduceLT, Int.reduceLE, Int.reduceEq, Int.reduceNeg, Int.reduceToNat, Nat.reduceLT, Nat.reduceLeDiff, Nat.reduceEqDiff, ↓reduceIte, true_and, and_true, not_true_eq_false, not_false_eq_true, eq_self, or_true, true_or, or_false, false_or, if_true, if_false, Int.toNat_natCast, w_ite, Nat.add_zero, reduceCtorEq, ne_eq, hc]
  refine sp_110 h.1 hf hv (fun S' I' L' R' G' hC hF => ?_)
  obtain ⟨h', hL⟩ := h.cls hC hF
  have ho := h'.2.2.1
  cases hr : (rLimit s1 v).1 with
  | inl v =>
    have := hQ S' I' (wr L' (c + 6799) (up (L' (c + 6799)) 0 (w v).toInt64)) R' G' 0 (h'.out _) hL (by rw [hr]; exact ⟨rfl, by rw [wr_same, up_same]⟩)
    unfold outX
    simp (disch := omega) only [q_242_0, q_242_1, q_242_2, q_242_3, q_242_4, q_242_7, q_242_8, q_242_9, q_242_12, q_242_13, q_242_14, q_242_15, q_242_16, q_242_e, va_rf_s, bz_0, bz_1, bz_ok, bb_ok, Nat.add_assoc, w_lt, w_add, w_sub, w_mul, w_div, em_def, w_eq, w_inT, ↓ilt_t, ↓ilt_f, ↓ieq_t, ↓ieq_f, ntT, w_b, w_ix, kx_v, kx_n, kl_n, kl_i, kl_r, kl_o, inA_i, inA_s, inA_b, inA_z, inA_l, inA_0, inA_4, inA_5, inA_6, inA_7, inA_8, inA_9, inA_10, al_0, al_1, al_2, al_4, al_5, al_98, bsP_2, bsP_3, wr_same, wr_wr, wr_ne, up_same, up_ne, Nat.reduceAdd, Int.reduceAdd, Int.reduceSub, Int.reduceMul, Int.reduceLT, Int.reduceLE, Int.reduceEq, Int.reduceNeg, Int.reduceToNat, Nat.reduceLT, Nat.reduceLeDiff, Nat.reduceEqDiff, ↓reduceIte, true_and, and_true, not_true_eq_false, not_false_eq_true, eq_self, or_true, true_or, or_false, false_or, if_true, if_false, Int.toNat_natCast, w_ite, Nat.add_zero, reduceCtorEq, ne_eq, ho]
    exact this
  | inr E =>
    have hE := rLimit_E hr
    have := hQ S' I' L' R' G' (tcode false E) h' hL (by rw [hr])
    unfold outX
    subst hE
    rw [kx_h (h := 12) rfl rfl (Nat.le_of_ble_eq_true rfl)]
    show XX (d + 73) 242 13 [some (.ref c), some (.int (w v)), some (.ref (c + 6799)), none] [] (mk S' I' L' R' G') Q
    simp (disch := omega) only [q_242_0, q_242_1, q_242_2, q_242_3, q_242_4, q_242_7, q_242_8, q_242_9, q_242_12, q_242_13, q_242_14, q_242_15, q_242_16, q_242_e, va_rf_s, bz_0, bz_1, bz_ok, bb_ok, Nat.add_assoc, w_lt, w_add, w_sub, w_mul, w_div, em_def, w_eq, w_inT, ↓ilt_t, ↓ilt_f, ↓ieq_t, ↓ieq_f, ntT, w_b, w_ix, kx_v, kx_n, kl_n, kl_i, kl_r, kl_o, inA_i, inA_s, inA_b, inA_z, inA_l, inA_0, inA_4, inA_5, inA_6, inA_7, inA_8, inA_9, inA_10, al_0, al_1, al_2, al_4, al_5, al_98, bsP_2, bsP_3, wr_same, wr_wr, wr_ne, up_same, up_ne, Nat.reduceAdd, Int.reduceAdd, Int.reduceSub, Int.reduceMul, Int.reduceLT, Int.reduceLE, Int.reduceEq, Int.reduceNeg, Int.reduceToNat, Nat.reduceLT, Nat.reduceLeDiff, Nat.reduceEqDiff, ↓reduceIte, true_and, and_true, not_true_eq_false, not_false_eq_true, eq_self, or_true, true_or, or_false, false_or, if_true, if_false, Int.toNat_natCast, w_ite, Nat.add_zero, reduceCtorEq, ne_eq]
    exact this
theorem sp_243 {l q : Int} (h : LB S I L R G c s1 s2) (hf : few s1) (hl : B32 l) (hq : B32 q) (hQ : HK S I G c s2 Q false (rDrop s1 l q)) : XC (d + 73) 243 [.ref c, .int (w l), .int (w q), .ref (c + 6799)] (mk S I L R G) Q := by
  have hc := h.1.1.1
  simp (disch := omega) only [q_243_0, q_243_1, q_243_2, q_243_3, q_243_4, q_243_5, q_243_8, q_243_9, q_243_10, q_243_13, q_243_15, q_243_16, q_243_17, q_243_18, q_243_e, va_rf_s, bz_0, bz_1, bz_ok, bb_ok, Nat.add_assoc, w_lt, w_add, w_sub, w_mul, w_div, em_def, w_eq, w_inT, ↓ilt_t, ↓ilt_f, ↓ieq_t, ↓ieq_f, ntT, w_b, w_ix, kx_v, kx_n, kl_n, kl_i, kl_r, kl_o, inA_i, inA_s, inA_b, inA_z, inA_l, inA_0, inA_4, inA_5, inA_6, inA_7, inA_8, inA_9, inA_10, al_0, al_1, al_2, al_4, al_5, al_98, bsP_2, bsP_3, wr_same, wr_wr, wr_ne, up_same, up_ne, Nat.reduceAdd, Int.reduceAdd, Int.reduceSub, Int.reduceMul, Int.reduceLT, Int.reduceLE, Int.reduceEq, Int.reduceNeg, Int.reduceToNat, Nat.reduceLT, Nat.reduceLeDiff, Nat.reduceEqDiff, ↓reduceIte, true_and, and_true, not_true_eq_false, not_false_eq_true, eq_self, or_true, true_or, or_false, false_or, if_true, if_false, Int.toNat_natCast, w_ite, Nat.add_zero, reduceCtorEq, ne_eq, hc]
  refine sp_111 h.1 hf hl hq (fun S' I' L' R' G' hC hF => ?_)
  obtain ⟨h', hL⟩ := h.cls hC hF
  have ho := h'.2.2.1
  cases hr : (rDrop s1 l q).1 with
  | inl v =>
    have := hQ S' I' (wr L' (c + 6799) (up (L' (c + 6799)) 0 (w v).toInt64)) R' G' 0 (h'.out _) hL (by rw [hr]; exact ⟨rfl, by rw [wr_same, up_same]⟩)
    unfold outX
    simp (disch := omega) only [q_243_0, q_243_1, q_243_2, q_243_3, q_243_4, q_243_5, q_243_8, q_243_9, q_243_10, q_243_13, q_243_15, q_243_16, q_243_17, q_243_18, q_243_e, va_rf_s, bz_0, bz_1, bz_ok, bb_ok, Nat.add_assoc, w_lt, w_add, w_sub, w_mul, w_div, em_def, w_eq, w_inT, ↓ilt_t, ↓ilt_f, ↓ieq_t, ↓ieq_f, ntT, w_b, w_ix, kx_v, kx_n, kl_n, kl_i, kl_r, kl_o, inA_i, inA_s, inA_b, inA_z, inA_l, inA_0, inA_4, inA_5, inA_6, inA_7, inA_8, inA_9, inA_10, al_0, al_1, al_2, al_4, al_5, al_98, bsP_2, bsP_3, wr_same, wr_wr, wr_ne, up_same, up_ne, Nat.reduceAdd, Int.reduceAdd, Int.reduceSub, Int.reduceMul, Int.reduceLT, Int.reduceLE, Int.reduceEq, Int.reduceNeg, Int.reduceToNat, Nat.reduceLT, Nat.reduceLeDiff, Nat.reduceEqDiff, ↓reduceIte, true_and, and_true, not_true_eq_false, not_false_eq_true, eq_self, or_true, true_or, or_false, false_or, if_true, if_false, Int.toNat_natCast, w_ite, Nat.add_zero, reduceCtorEq, ne_eq, ho]
    exact this
  | inr E =>
    have hE := rDrop_E hr
    have := hQ S' I' L' R' G' (tcode false E) h' hL (by rw [hr])
    unfold outX
    subst hE
    rw [kx_h (h := 13) rfl rfl (Nat.le_of_ble_eq_true rfl)]
    show XX (d + 73) 243 15 [some (.ref c), some (.int (w l)), some (.int (w q)), some (.ref (c + 6799)), none] [] (mk S' I' L' R' G') Q
    simp (disch := omega) only [q_243_0, q_243_1, q_243_2, q_243_3, q_243_4, q_243_5, q_243_8, q_243_9, q_243_10, q_243_13, q_243_15, q_243_16, q_243_17, q_243_18, q_243_e, va_rf_s, bz_0, bz_1, bz_ok, bb_ok, Nat.add_assoc, w_lt, w_add, w_sub, w_mul, w_div, em_def, w_eq, w_inT, ↓ilt_t, ↓ilt_f, ↓ieq_t, ↓ieq_f, ntT, w_b, w_ix, kx_v, kx_n, kl_n, kl_i, kl_r, kl_o, inA_i, inA_s, inA_b, inA_z, inA_l, inA_0, inA_4, inA_5, inA_6, inA_7, inA_8, inA_9, inA_10, al_0, al_1, al_2, al_4, al_5, al_98, bsP_2, bsP_3, wr_same, wr_wr, wr_ne, up_same, up_ne, Nat.reduceAdd, Int.reduceAdd, Int.reduceSub, Int.reduceMul, Int.reduceLT, Int.reduceLE, Int.reduceEq, Int.reduceNeg, Int.reduceToNat, Nat.reduceLT, Nat.reduceLeDiff, Nat.reduceEqDiff, ↓reduceIte, true_and, and_true, not_true_eq_false, not_false_eq_true, eq_self, or_true, true_or, or_false, false_or, if_true, if_false, Int.toNat_natCast, w_ite, Nat.add_zero, reduceCtorEq, ne_eq]
    exact this
theorem sp_244 {l q : Int} (h : LB S I L R G c s1 s2) (hf : few s1) (hl : B32 l) (hq : B32 q) (hQ : HK S I G c s2 Q true (rRise s1 l q)) : XC (d + 73) 244 [.ref c, .int (w l), .int (w q), .ref (c + 6799)] (mk S I L R G) Q := by
  have hc := h.1.1.1
  simp (disch := omega) only [q_244_0, q_244_1, q_244_2, q_244_3, q_244_4, q_244_5, q_244_8, q_244_9, q_244_10, q_244_13, q_244_15, q_244_16, q_244_17, q_244_19, q_244_20, q_244_21, q_244_22, q_244_e, va_rf_s, bz_0, bz_1, bz_ok, bb_ok, Nat.add_assoc, w_lt, w_add, w_sub, w_mul, w_div, em_def, w_eq, w_inT, ↓ilt_t, ↓ilt_f, ↓ieq_t, ↓ieq_f, ntT, w_b, w_ix, kx_v, kx_n, kl_n, kl_i, kl_r, kl_o, inA_i, inA_s, inA_b, inA_z, inA_l, inA_0, inA_4, inA_5, inA_6, inA_7, inA_8, inA_9, inA_10, al_0, al_1, al_2, al_4, al_5, al_98, bsP_2, bsP_3, wr_same, wr_wr, wr_ne, up_same, up_ne, Nat.reduceAdd, Int.reduceAdd, Int.reduceSub, Int.reduceMul, Int.reduceLT, Int.reduceLE, Int.reduceEq, Int.reduceNeg, Int.reduceToNat, Nat.reduceLT, Nat.reduceLeDiff, Nat.reduceEqDiff, ↓reduceIte, true_and, and_true, not_true_eq_false, not_false_eq_true, eq_self, or_true, true_or, or_false, false_or, if_true, if_false, Int.toNat_natCast, w_ite, Nat.add_zero, reduceCtorEq, ne_eq, hc]
  refine sp_112 h.1 hf hl hq (fun S' I' L' R' G' hC hF => ?_)
  obtain ⟨h', hL⟩ := h.cls hC hF
  have ho := h'.2.2.1
  cases hr : (rRise s1 l q).1 with
  | inl v =>
    have := hQ S' I' (wr L' (c + 6799) (up (L' (c + 6799)) 0 (w v).toInt64)) R' G' 0 (h'.out _) hL (by rw [hr]; exact ⟨rfl, by rw [wr_same, up_same]⟩)
    unfold outX
    simp (disch := omega) only [q_244_0, q_244_1, q_244_2, q_244_3, q_244_4, q_244_5, q_244_8, q_244_9, q_244_10, q_244_13, q_244_15, q_244_16, q_244_17, q_244_19, q_244_20, q_244_21, q_244_22, q_244_e, va_rf_s, bz_0, bz_1, bz_ok, bb_ok, Nat.add_assoc, w_lt, w_add, w_sub, w_mul, w_div, em_def, w_eq, w_inT, ↓ilt_t, ↓ilt_f, ↓ieq_t, ↓ieq_f, ntT, w_b, w_ix, kx_v, kx_n, kl_n, kl_i, kl_r, kl_o, inA_i, inA_s, inA_b, inA_z, inA_l, inA_0, inA_4, inA_5, inA_6, inA_7, inA_8, inA_9, inA_10, al_0, al_1, al_2, al_4, al_5, al_98, bsP_2, bsP_3, wr_same, wr_wr, wr_ne, up_same, up_ne, Nat.reduceAdd, Int.reduceAdd, Int.reduceSub, Int.reduceMul, Int.reduceLT, Int.reduceLE, Int.reduceEq, Int.reduceNeg, Int.reduceToNat, Nat.reduceLT, Nat.reduceLeDiff, Nat.reduceEqDiff, ↓reduceIte, true_and, and_true, not_true_eq_false, not_false_eq_true, eq_self, or_true, true_or, or_false, false_or, if_true, if_false, Int.toNat_natCast, w_ite, Nat.add_zero, reduceCtorEq, ne_eq, ho]
    exact this
  | inr E =>
    have hE := rRise_E hr
    have := hQ S' I' L' R' G' (tcode true E) h' hL (by rw [hr])
    unfold outX
    have hE2 : E = 0 ∨ E = 1 := by omega
    rcases hE2 with rfl | rfl
    · rw [kx_h (h := 13) rfl rfl (Nat.le_of_ble_eq_true rfl)]
      show XX (d + 73) 244 15 [some (.ref c), some (.int (w l)), some (.int (w q)), some (.ref (c + 6799)), none] [] (mk S' I' L' R' G') Q
      simp (disch := omega) only [q_244_0, q_244_1, q_244_2, q_244_3, q_244_4, q_244_5, q_244_8, q_244_9, q_244_10, q_244_13, q_244_15, q_244_16, q_244_17, q_244_19, q_244_20, q_244_21, q_244_22, q_244_e, va_rf_s, bz_0, bz_1, bz_ok, bb_ok, Nat.add_assoc, w_lt, w_add, w_sub, w_mul, w_div, em_def, w_eq, w_inT, ↓ilt_t, ↓ilt_f, ↓ieq_t, ↓ieq_f, ntT, w_b, w_ix, kx_v, kx_n, kl_n, kl_i, kl_r, kl_o, inA_i, inA_s, inA_b, inA_z, inA_l, inA_0, inA_4, inA_5, inA_6, inA_7, inA_8, inA_9, inA_10, al_0, al_1, al_2, al_4, al_5, al_98, bsP_2, bsP_3, wr_same, wr_wr, wr_ne, up_same, up_ne, Nat.reduceAdd, Int.reduceAdd, Int.reduceSub, Int.reduceMul, Int.reduceLT, Int.reduceLE, Int.reduceEq, Int.reduceNeg, Int.reduceToNat, Nat.reduceLT, Nat.reduceLeDiff, Nat.reduceEqDiff, ↓reduceIte, true_and, and_true, not_true_eq_false, not_false_eq_true, eq_self, or_true, true_or, or_false, false_or, if_true, if_false, Int.toNat_natCast, w_ite, Nat.add_zero, reduceCtorEq, ne_eq]
      exact this
    · rw [kx_h (h := 17) rfl rfl (Nat.le_of_ble_eq_true rfl)]
      show XX (d + 73) 244 19 [some (.ref c), some (.int (w l)), some (.int (w q)), some (.ref (c + 6799)), none] [] (mk S' I' L' R' G') Q
      simp (disch := omega) only [q_244_0, q_244_1, q_244_2, q_244_3, q_244_4, q_244_5, q_244_8, q_244_9, q_244_10, q_244_13, q_244_15, q_244_16, q_244_17, q_244_19, q_244_20, q_244_21, q_244_22, q_244_e, va_rf_s, bz_0, bz_1, bz_ok, bb_ok, Nat.add_assoc, w_lt, w_add, w_sub, w_mul, w_div, em_def, w_eq, w_inT, ↓ilt_t, ↓ilt_f, ↓ieq_t, ↓ieq_f, ntT, w_b, w_ix, kx_v, kx_n, kl_n, kl_i, kl_r, kl_o, inA_i, inA_s, inA_b, inA_z, inA_l, inA_0, inA_4, inA_5, inA_6, inA_7, inA_8, inA_9, inA_10, al_0, al_1, al_2, al_4, al_5, al_98, bsP_2, bsP_3, wr_same, wr_wr, wr_ne, up_same, up_ne, Nat.reduceAdd, Int.reduceAdd, Int.reduceSub, Int.reduceMul, Int.reduceLT, Int.reduceLE, Int.reduceEq, Int.reduceNeg, Int.reduceToNat, Nat.reduceLT, Nat.reduceLeDiff, Nat.reduceEqDiff, ↓reduceIte, true_and, and_true, not_true_eq_false, not_false_eq_true, eq_self, or_true, true_or, or_false, false_or, if_true, if_false, Int.toNat_natCast, w_ite, Nat.add_zero, reduceCtorEq, ne_eq]
      exact this
theorem sp_245 {x : Int} (h : LB S I L R G c s1 s2) (hf : few s1) (hx : B32 x) (hQ : HK S I G c s2 Q false (rTold s1 x)) : XC (d + 73) 245 [.ref c, .int (w x), .ref (c + 6799)] (mk S I L R G) Q := by
  have hc := h.1.1.1
  simp (disch := omega) only [q_245_0, q_245_1, q_245_2, q_245_3, q_245_4, q_245_7, q_245_8, q_245_9, q_245_12, q_245_13, q_245_14, q_245_15, q_245_16, q_245_e, va_rf_s, bz_0, bz_1, bz_ok, bb_ok, Nat.add_assoc, w_lt, w_add, w_sub, w_mul, w_div, em_def, w_eq, w_inT, ↓ilt_t, ↓ilt_f, ↓ieq_t, ↓ieq_f, ntT, w_b, w_ix, kx_v, kx_n, kl_n, kl_i, kl_r, kl_o, inA_i, inA_s, inA_b, inA_z, inA_l, inA_0, inA_4, inA_5, inA_6, inA_7, inA_8, inA_9, inA_10, al_0, al_1, al_2, al_4, al_5, al_98, bsP_2, bsP_3, wr_same, wr_wr, wr_ne, up_same, up_ne, Nat.reduceAdd, Int.reduceAdd, Int.reduceSub, Int.reduceMul, Int.reduceLT, Int.reduceLE, Int.reduceEq, Int.reduceNeg, Int.reduceToNat, Nat.reduceLT, Nat.reduceLeDiff, Nat.reduceEqDiff, ↓reduceIte, true_and, and_true, not_true_eq_false, not_false_eq_true, eq_self, or_true, true_or, or_false, false_or, if_true, if_false, Int.toNat_natCast, w_ite, Nat.add_zero, reduceCtorEq, ne_eq, hc]
  refine sp_115 h.1 hf hx (fun S' I' L' R' G' hC hF => ?_)
  obtain ⟨h', hL⟩ := h.cls hC hF
  have ho := h'.2.2.1
  cases hr : (rTold s1 x).1 with
  | inl v =>
    have := hQ S' I' (wr L' (c + 6799) (up (L' (c + 6799)) 0 (w v).toInt64)) R' G' 0 (h'.out _) hL (by rw [hr]; exact ⟨rfl, by rw [wr_same, up_same]⟩)
    unfold outX
    simp (disch := omega) only [q_245_0, q_245_1, q_245_2, q_245_3, q_245_4, q_245_7, q_245_8, q_245_9, q_245_12, q_245_13, q_245_14, q_245_15, q_245_16, q_245_e, va_rf_s, bz_0, bz_1, bz_ok, bb_ok, Nat.add_assoc, w_lt, w_add, w_sub, w_mul, w_div, em_def, w_eq, w_inT, ↓ilt_t, ↓ilt_f, ↓ieq_t, ↓ieq_f, ntT, w_b, w_ix, kx_v, kx_n, kl_n, kl_i, kl_r, kl_o, inA_i, inA_s, inA_b, inA_z, inA_l, inA_0, inA_4, inA_5, inA_6, inA_7, inA_8, inA_9, inA_10, al_0, al_1, al_2, al_4, al_5, al_98, bsP_2, bsP_3, wr_same, wr_wr, wr_ne, up_same, up_ne, Nat.reduceAdd, Int.reduceAdd, Int.reduceSub, Int.reduceMul, Int.reduceLT, Int.reduceLE, Int.reduceEq, Int.reduceNeg, Int.reduceToNat, Nat.reduceLT, Nat.reduceLeDiff, Nat.reduceEqDiff, ↓reduceIte, true_and, and_true, not_true_eq_false, not_false_eq_true, eq_self, or_true, true_or, or_false, false_or, if_true, if_false, Int.toNat_natCast, w_ite, Nat.add_zero, reduceCtorEq, ne_eq, ho]
    exact this
  | inr E =>
    have hE := rTold_E hr
    have := hQ S' I' L' R' G' (tcode false E) h' hL (by rw [hr])
    unfold outX
    subst hE
    rw [kx_h (h := 12) rfl rfl (Nat.le_of_ble_eq_true rfl)]
    show XX (d + 73) 245 13 [some (.ref c), some (.int (w x)), some (.ref (c + 6799)), none] [] (mk S' I' L' R' G') Q
    simp (disch := omega) only [q_245_0, q_245_1, q_245_2, q_245_3, q_245_4, q_245_7, q_245_8, q_245_9, q_245_12, q_245_13, q_245_14, q_245_15, q_245_16, q_245_e, va_rf_s, bz_0, bz_1, bz_ok, bb_ok, Nat.add_assoc, w_lt, w_add, w_sub, w_mul, w_div, em_def, w_eq, w_inT, ↓ilt_t, ↓ilt_f, ↓ieq_t, ↓ieq_f, ntT, w_b, w_ix, kx_v, kx_n, kl_n, kl_i, kl_r, kl_o, inA_i, inA_s, inA_b, inA_z, inA_l, inA_0, inA_4, inA_5, inA_6, inA_7, inA_8, inA_9, inA_10, al_0, al_1, al_2, al_4, al_5, al_98, bsP_2, bsP_3, wr_same, wr_wr, wr_ne, up_same, up_ne, Nat.reduceAdd, Int.reduceAdd, Int.reduceSub, Int.reduceMul, Int.reduceLT, Int.reduceLE, Int.reduceEq, Int.reduceNeg, Int.reduceToNat, Nat.reduceLT, Nat.reduceLeDiff, Nat.reduceEqDiff, ↓reduceIte, true_and, and_true, not_true_eq_false, not_false_eq_true, eq_self, or_true, true_or, or_false, false_or, if_true, if_false, Int.toNat_natCast, w_ite, Nat.add_zero, reduceCtorEq, ne_eq]
    exact this
theorem sp_246 {l q x : Int} (h : LB S I L R G c s1 s2) (hf : few s1) (hl : B32 l) (hq : B32 q) (hx : B32 x) (hQ : HK S I G c s2 Q true (rRule s1 l q x)) : XC (d + 73) 246 [.ref c, .int (w l), .int (w q), .int (w x), .ref (c + 6799)] (mk S I L R G) Q := by
  have hc := h.1.1.1
  simp (disch := omega) only [q_246_0, q_246_2, q_246_3, q_246_4, q_246_5, q_246_6, q_246_7, q_246_10, q_246_11, q_246_12, q_246_15, q_246_17, q_246_18, q_246_19, q_246_21, q_246_22, q_246_23, q_246_24, q_246_e, va_rf_s, bz_0, bz_1, bz_ok, bb_ok, Nat.add_assoc, w_lt, w_add, w_sub, w_mul, w_div, em_def, w_eq, w_inT, ↓ilt_t, ↓ilt_f, ↓ieq_t, ↓ieq_f, ntT, w_b, w_ix, kx_v, kx_n, kl_n, kl_i, kl_r, kl_o, inA_i, inA_s, inA_b, inA_z, inA_l, inA_0, inA_4, inA_5, inA_6, inA_7, inA_8, inA_9, inA_10, al_0, al_1, al_2, al_4, al_5, al_98, bsP_2, bsP_3, wr_same, wr_wr, wr_ne, up_same, up_ne, Nat.reduceAdd, Int.reduceAdd, Int.reduceSub, Int.reduceMul, Int.reduceLT, Int.reduceLE, Int.reduceEq, Int.reduceNeg, Int.reduceToNat, Nat.reduceLT, Nat.reduceLeDiff, Nat.reduceEqDiff, ↓reduceIte, true_and, and_true, not_true_eq_false, not_false_eq_true, eq_self, or_true, true_or, or_false, false_or, if_true, if_false, Int.toNat_natCast, w_ite, Nat.add_zero, reduceCtorEq, ne_eq, hc]
  refine sp_116 h.1 hf hl hq hx (fun S' I' L' R' G' hC hF => ?_)
  obtain ⟨h', hL⟩ := h.cls hC hF
  have ho := h'.2.2.1
  cases hr : (rRule s1 l q x).1 with
  | inl v =>
    have := hQ S' I' (wr L' (c + 6799) (up (L' (c + 6799)) 0 (w v).toInt64)) R' G' 0 (h'.out _) hL (by rw [hr]; exact ⟨rfl, by rw [wr_same, up_same]⟩)
    unfold outX
    simp (disch := omega) only [q_246_0, q_246_2, q_246_3, q_246_4, q_246_5, q_246_6, q_246_7, q_246_10, q_246_11, q_246_12, q_246_15, q_246_17, q_246_18, q_246_19, q_246_21, q_246_22, q_246_23, q_246_24, q_246_e, va_rf_s, bz_0, bz_1, bz_ok, bb_ok, Nat.add_assoc, w_lt, w_add, w_sub, w_mul, w_div, em_def, w_eq, w_inT, ↓ilt_t, ↓ilt_f, ↓ieq_t, ↓ieq_f, ntT, w_b, w_ix, kx_v, kx_n, kl_n, kl_i, kl_r, kl_o, inA_i, inA_s, inA_b, inA_z, inA_l, inA_0, inA_4, inA_5, inA_6, inA_7, inA_8, inA_9, inA_10, al_0, al_1, al_2, al_4, al_5, al_98, bsP_2, bsP_3, wr_same, wr_wr, wr_ne, up_same, up_ne, Nat.reduceAdd, Int.reduceAdd, Int.reduceSub, Int.reduceMul, Int.reduceLT, Int.reduceLE, Int.reduceEq, Int.reduceNeg, Int.reduceToNat, Nat.reduceLT, Nat.reduceLeDiff, Nat.reduceEqDiff, ↓reduceIte, true_and, and_true, not_true_eq_false, not_false_eq_true, eq_self, or_true, true_or, or_false, false_or, if_true, if_false, Int.toNat_natCast, w_ite, Nat.add_zero, reduceCtorEq, ne_eq, ho]
    exact this
  | inr E =>
    have hE := rRule_E hr
    have := hQ S' I' L' R' G' (tcode true E) h' hL (by rw [hr])
    unfold outX
    have hE2 : E = 0 ∨ E = 1 := by omega
    rcases hE2 with rfl | rfl
    · rw [kx_h (h := 15) rfl rfl (Nat.le_of_ble_eq_true rfl)]
      show XX (d + 73) 246 17 [some (.ref c), some (.int (w l)), some (.int (w q)), some (.int (w x)), some (.ref (c + 6799)), none] [] (mk S' I' L' R' G') Q
      simp (disch := omega) only [q_246_0, q_246_2, q_246_3, q_246_4, q_246_5, q_246_6, q_246_7, q_246_10, q_246_11, q_246_12, q_246_15, q_246_17, q_246_18, q_246_19, q_246_21, q_246_22, q_246_23, q_246_24, q_246_e, va_rf_s, bz_0, bz_1, bz_ok, bb_ok, Nat.add_assoc, w_lt, w_add, w_sub, w_mul, w_div, em_def, w_eq, w_inT, ↓ilt_t, ↓ilt_f, ↓ieq_t, ↓ieq_f, ntT, w_b, w_ix, kx_v, kx_n, kl_n, kl_i, kl_r, kl_o, inA_i, inA_s, inA_b, inA_z, inA_l, inA_0, inA_4, inA_5, inA_6, inA_7, inA_8, inA_9, inA_10, al_0, al_1, al_2, al_4, al_5, al_98, bsP_2, bsP_3, wr_same, wr_wr, wr_ne, up_same, up_ne, Nat.reduceAdd, Int.reduceAdd, Int.reduceSub, Int.reduceMul, Int.reduceLT, Int.reduceLE, Int.reduceEq, Int.reduceNeg, Int.reduceToNat, Nat.reduceLT, Nat.reduceLeDiff, Nat.reduceEqDiff, ↓reduceIte, true_and, and_true, not_true_eq_false, not_false_eq_true, eq_self, or_true, true_or, or_false, false_or, if_true, if_false, Int.toNat_natCast, w_ite, Nat.add_zero, reduceCtorEq, ne_eq]
      exact this
    · rw [kx_h (h := 19) rfl rfl (Nat.le_of_ble_eq_true rfl)]
      show XX (d + 73) 246 21 [some (.ref c), some (.int (w l)), some (.int (w q)), some (.int (w x)), some (.ref (c + 6799)), none] [] (mk S' I' L' R' G') Q
      simp (disch := omega) only [q_246_0, q_246_2, q_246_3, q_246_4, q_246_5, q_246_6, q_246_7, q_246_10, q_246_11, q_246_12, q_246_15, q_246_17, q_246_18, q_246_19, q_246_21, q_246_22, q_246_23, q_246_24, q_246_e, va_rf_s, bz_0, bz_1, bz_ok, bb_ok, Nat.add_assoc, w_lt, w_add, w_sub, w_mul, w_div, em_def, w_eq, w_inT, ↓ilt_t, ↓ilt_f, ↓ieq_t, ↓ieq_f, ntT, w_b, w_ix, kx_v, kx_n, kl_n, kl_i, kl_r, kl_o, inA_i, inA_s, inA_b, inA_z, inA_l, inA_0, inA_4, inA_5, inA_6, inA_7, inA_8, inA_9, inA_10, al_0, al_1, al_2, al_4, al_5, al_98, bsP_2, bsP_3, wr_same, wr_wr, wr_ne, up_same, up_ne, Nat.reduceAdd, Int.reduceAdd, Int.reduceSub, Int.reduceMul, Int.reduceLT, Int.reduceLE, Int.reduceEq, Int.reduceNeg, Int.reduceToNat, Nat.reduceLT, Nat.reduceLeDiff, Nat.reduceEqDiff, ↓reduceIte, true_and, and_true, not_true_eq_false, not_false_eq_true, eq_self, or_true, true_or, or_false, false_or, if_true, if_false, Int.toNat_natCast, w_ite, Nat.add_zero, reduceCtorEq, ne_eq]
      exact this
theorem sp_247 {l q i x : Int} (h : LB S I L R G c s1 s2) (hf : few s1) (hl : B32 l) (hq : B32 q) (hi : B32 i) (hx : B32 x) (hQ : HK S I G c s2 Q true (rItem s1 l q i x)) : XC (d + 73) 247 [.ref c, .int (w l), .int (w q), .int (w i), .int (w x), .ref (c + 6799)] (mk S I L R G) Q := by
  have hc := h.1.1.1
  simp (disch := omega) only [q_247_0, q_247_2, q_247_3, q_247_4, q_247_5, q_247_6, q_247_7, q_247_9, q_247_12, q_247_13, q_247_14, q_247_17, q_247_19, q_247_20, q_247_21, q_247_23, q_247_24, q_247_25, q_247_26, q_247_e, va_rf_s, bz_0, bz_1, bz_ok, bb_ok, Nat.add_assoc, w_lt, w_add, w_sub, w_mul, w_div, em_def, w_eq, w_inT, ↓ilt_t, ↓ilt_f, ↓ieq_t, ↓ieq_f, ntT, w_b, w_ix, kx_v, kx_n, kl_n, kl_i, kl_r, kl_o, inA_i, inA_s, inA_b, inA_z, inA_l, inA_0, inA_4, inA_5, inA_6, inA_7, inA_8, inA_9, inA_10, al_0, al_1, al_2, al_4, al_5, al_98, bsP_2, bsP_3, wr_same, wr_wr, wr_ne, up_same, up_ne, Nat.reduceAdd, Int.reduceAdd, Int.reduceSub, Int.reduceMul, Int.reduceLT, Int.reduceLE, Int.reduceEq, Int.reduceNeg, Int.reduceToNat, Nat.reduceLT, Nat.reduceLeDiff, Nat.reduceEqDiff, ↓reduceIte, true_and, and_true, not_true_eq_false, not_false_eq_true, eq_self, or_true, true_or, or_false, false_or, if_true, if_false, Int.toNat_natCast, w_ite, Nat.add_zero, reduceCtorEq, ne_eq, hc]
  refine sp_117 h.1 hf hl hq hi hx (fun S' I' L' R' G' hC hF => ?_)
  obtain ⟨h', hL⟩ := h.cls hC hF
  have ho := h'.2.2.1
  cases hr : (rItem s1 l q i x).1 with
  | inl v =>
    have := hQ S' I' (wr L' (c + 6799) (up (L' (c + 6799)) 0 (w v).toInt64)) R' G' 0 (h'.out _) hL (by rw [hr]; exact ⟨rfl, by rw [wr_same, up_same]⟩)
    unfold outX
    simp (disch := omega) only [q_247_0, q_247_2, q_247_3, q_247_4, q_247_5, q_247_6, q_247_7, q_247_9, q_247_12, q_247_13, q_247_14, q_247_17, q_247_19, q_247_20, q_247_21, q_247_23, q_247_24, q_247_25, q_247_26, q_247_e, va_rf_s, bz_0, bz_1, bz_ok, bb_ok, Nat.add_assoc, w_lt, w_add, w_sub, w_mul, w_div, em_def, w_eq, w_inT, ↓ilt_t, ↓ilt_f, ↓ieq_t, ↓ieq_f, ntT, w_b, w_ix, kx_v, kx_n, kl_n, kl_i, kl_r, kl_o, inA_i, inA_s, inA_b, inA_z, inA_l, inA_0, inA_4, inA_5, inA_6, inA_7, inA_8, inA_9, inA_10, al_0, al_1, al_2, al_4, al_5, al_98, bsP_2, bsP_3, wr_same, wr_wr, wr_ne, up_same, up_ne, Nat.reduceAdd, Int.reduceAdd, Int.reduceSub, Int.reduceMul, Int.reduceLT, Int.reduceLE, Int.reduceEq, Int.reduceNeg, Int.reduceToNat, Nat.reduceLT, Nat.reduceLeDiff, Nat.reduceEqDiff, ↓reduceIte, true_and, and_true, not_true_eq_false, not_false_eq_true, eq_self, or_true, true_or, or_false, false_or, if_true, if_false, Int.toNat_natCast, w_ite, Nat.add_zero, reduceCtorEq, ne_eq, ho]
    exact this
  | inr E =>
    have hE := rItem_E hr
    have := hQ S' I' L' R' G' (tcode true E) h' hL (by rw [hr])
    unfold outX
    have hE2 : E = 0 ∨ E = 1 := by omega
    rcases hE2 with rfl | rfl
    · rw [kx_h (h := 17) rfl rfl (Nat.le_of_ble_eq_true rfl)]
      show XX (d + 73) 247 19 [some (.ref c), some (.int (w l)), some (.int (w q)), some (.int (w i)), some (.int (w x)), some (.ref (c + 6799)), none] [] (mk S' I' L' R' G') Q
      simp (disch := omega) only [q_247_0, q_247_2, q_247_3, q_247_4, q_247_5, q_247_6, q_247_7, q_247_9, q_247_12, q_247_13, q_247_14, q_247_17, q_247_19, q_247_20, q_247_21, q_247_23, q_247_24, q_247_25, q_247_26, q_247_e, va_rf_s, bz_0, bz_1, bz_ok, bb_ok, Nat.add_assoc, w_lt, w_add, w_sub, w_mul, w_div, em_def, w_eq, w_inT, ↓ilt_t, ↓ilt_f, ↓ieq_t, ↓ieq_f, ntT, w_b, w_ix, kx_v, kx_n, kl_n, kl_i, kl_r, kl_o, inA_i, inA_s, inA_b, inA_z, inA_l, inA_0, inA_4, inA_5, inA_6, inA_7, inA_8, inA_9, inA_10, al_0, al_1, al_2, al_4, al_5, al_98, bsP_2, bsP_3, wr_same, wr_wr, wr_ne, up_same, up_ne, Nat.reduceAdd, Int.reduceAdd, Int.reduceSub, Int.reduceMul, Int.reduceLT, Int.reduceLE, Int.reduceEq, Int.reduceNeg, Int.reduceToNat, Nat.reduceLT, Nat.reduceLeDiff, Nat.reduceEqDiff, ↓reduceIte, true_and, and_true, not_true_eq_false, not_false_eq_true, eq_self, or_true, true_or, or_false, false_or, if_true, if_false, Int.toNat_natCast, w_ite, Nat.add_zero, reduceCtorEq, ne_eq]
      exact this
    · rw [kx_h (h := 21) rfl rfl (Nat.le_of_ble_eq_true rfl)]
      show XX (d + 73) 247 23 [some (.ref c), some (.int (w l)), some (.int (w q)), some (.int (w i)), some (.int (w x)), some (.ref (c + 6799)), none] [] (mk S' I' L' R' G') Q
      simp (disch := omega) only [q_247_0, q_247_2, q_247_3, q_247_4, q_247_5, q_247_6, q_247_7, q_247_9, q_247_12, q_247_13, q_247_14, q_247_17, q_247_19, q_247_20, q_247_21, q_247_23, q_247_24, q_247_25, q_247_26, q_247_e, va_rf_s, bz_0, bz_1, bz_ok, bb_ok, Nat.add_assoc, w_lt, w_add, w_sub, w_mul, w_div, em_def, w_eq, w_inT, ↓ilt_t, ↓ilt_f, ↓ieq_t, ↓ieq_f, ntT, w_b, w_ix, kx_v, kx_n, kl_n, kl_i, kl_r, kl_o, inA_i, inA_s, inA_b, inA_z, inA_l, inA_0, inA_4, inA_5, inA_6, inA_7, inA_8, inA_9, inA_10, al_0, al_1, al_2, al_4, al_5, al_98, bsP_2, bsP_3, wr_same, wr_wr, wr_ne, up_same, up_ne, Nat.reduceAdd, Int.reduceAdd, Int.reduceSub, Int.reduceMul, Int.reduceLT, Int.reduceLE, Int.reduceEq, Int.reduceNeg, Int.reduceToNat, Nat.reduceLT, Nat.reduceLeDiff, Nat.reduceEqDiff, ↓reduceIte, true_and, and_true, not_true_eq_false, not_false_eq_true, eq_self, or_true, true_or, or_false, false_or, if_true, if_false, Int.toNat_natCast, w_ite, Nat.add_zero, reduceCtorEq, ne_eq]
      exact this
theorem sp_248 {l n : Int} (h : LB S I L R G c s1 s2) (hf : few s1) (hl : B32 l) (hn : B32 n) (hQ : HK S I G c s2 Q true (rFits s1 l n)) : XC (d + 73) 248 [.ref c, .int (w l), .int (w n), .ref (c + 6799)] (mk S I L R G) Q := by
  have hc := h.1.1.1
  simp (disch := omega) only [q_248_0, q_248_1, q_248_2, q_248_3, q_248_4, q_248_5, q_248_8, q_248_9, q_248_10, q_248_13, q_248_15, q_248_16, q_248_17, q_248_19, q_248_20, q_248_21, q_248_22, q_248_e, va_rf_s, bz_0, bz_1, bz_ok, bb_ok, Nat.add_assoc, w_lt, w_add, w_sub, w_mul, w_div, em_def, w_eq, w_inT, ↓ilt_t, ↓ilt_f, ↓ieq_t, ↓ieq_f, ntT, w_b, w_ix, kx_v, kx_n, kl_n, kl_i, kl_r, kl_o, inA_i, inA_s, inA_b, inA_z, inA_l, inA_0, inA_4, inA_5, inA_6, inA_7, inA_8, inA_9, inA_10, al_0, al_1, al_2, al_4, al_5, al_98, bsP_2, bsP_3, wr_same, wr_wr, wr_ne, up_same, up_ne, Nat.reduceAdd, Int.reduceAdd, Int.reduceSub, Int.reduceMul, Int.reduceLT, Int.reduceLE, Int.reduceEq, Int.reduceNeg, Int.reduceToNat, Nat.reduceLT, Nat.reduceLeDiff, Nat.reduceEqDiff, ↓reduceIte, true_and, and_true, not_true_eq_false, not_false_eq_true, eq_self, or_true, true_or, or_false, false_or, if_true, if_false, Int.toNat_natCast, w_ite, Nat.add_zero, reduceCtorEq, ne_eq, hc]
  refine sp_118 h.1 hf hl hn (fun S' I' L' R' G' hC hF => ?_)
  obtain ⟨h', hL⟩ := h.cls hC hF
  have ho := h'.2.2.1
  cases hr : (rFits s1 l n).1 with
  | inl v =>
    have := hQ S' I' (wr L' (c + 6799) (up (L' (c + 6799)) 0 (w v).toInt64)) R' G' 0 (h'.out _) hL (by rw [hr]; exact ⟨rfl, by rw [wr_same, up_same]⟩)
    unfold outX
    simp (disch := omega) only [q_248_0, q_248_1, q_248_2, q_248_3, q_248_4, q_248_5, q_248_8, q_248_9, q_248_10, q_248_13, q_248_15, q_248_16, q_248_17, q_248_19, q_248_20, q_248_21, q_248_22, q_248_e, va_rf_s, bz_0, bz_1, bz_ok, bb_ok, Nat.add_assoc, w_lt, w_add, w_sub, w_mul, w_div, em_def, w_eq, w_inT, ↓ilt_t, ↓ilt_f, ↓ieq_t, ↓ieq_f, ntT, w_b, w_ix, kx_v, kx_n, kl_n, kl_i, kl_r, kl_o, inA_i, inA_s, inA_b, inA_z, inA_l, inA_0, inA_4, inA_5, inA_6, inA_7, inA_8, inA_9, inA_10, al_0, al_1, al_2, al_4, al_5, al_98, bsP_2, bsP_3, wr_same, wr_wr, wr_ne, up_same, up_ne, Nat.reduceAdd, Int.reduceAdd, Int.reduceSub, Int.reduceMul, Int.reduceLT, Int.reduceLE, Int.reduceEq, Int.reduceNeg, Int.reduceToNat, Nat.reduceLT, Nat.reduceLeDiff, Nat.reduceEqDiff, ↓reduceIte, true_and, and_true, not_true_eq_false, not_false_eq_true, eq_self, or_true, true_or, or_false, false_or, if_true, if_false, Int.toNat_natCast, w_ite, Nat.add_zero, reduceCtorEq, ne_eq, ho]
    exact this
  | inr E =>
    have hE := rFits_E hr
    have := hQ S' I' L' R' G' (tcode true E) h' hL (by rw [hr])
    unfold outX
    have hE2 : E = 0 ∨ E = 1 := by omega
    rcases hE2 with rfl | rfl
    · rw [kx_h (h := 13) rfl rfl (Nat.le_of_ble_eq_true rfl)]
      show XX (d + 73) 248 15 [some (.ref c), some (.int (w l)), some (.int (w n)), some (.ref (c + 6799)), none] [] (mk S' I' L' R' G') Q
      simp (disch := omega) only [q_248_0, q_248_1, q_248_2, q_248_3, q_248_4, q_248_5, q_248_8, q_248_9, q_248_10, q_248_13, q_248_15, q_248_16, q_248_17, q_248_19, q_248_20, q_248_21, q_248_22, q_248_e, va_rf_s, bz_0, bz_1, bz_ok, bb_ok, Nat.add_assoc, w_lt, w_add, w_sub, w_mul, w_div, em_def, w_eq, w_inT, ↓ilt_t, ↓ilt_f, ↓ieq_t, ↓ieq_f, ntT, w_b, w_ix, kx_v, kx_n, kl_n, kl_i, kl_r, kl_o, inA_i, inA_s, inA_b, inA_z, inA_l, inA_0, inA_4, inA_5, inA_6, inA_7, inA_8, inA_9, inA_10, al_0, al_1, al_2, al_4, al_5, al_98, bsP_2, bsP_3, wr_same, wr_wr, wr_ne, up_same, up_ne, Nat.reduceAdd, Int.reduceAdd, Int.reduceSub, Int.reduceMul, Int.reduceLT, Int.reduceLE, Int.reduceEq, Int.reduceNeg, Int.reduceToNat, Nat.reduceLT, Nat.reduceLeDiff, Nat.reduceEqDiff, ↓reduceIte, true_and, and_true, not_true_eq_false, not_false_eq_true, eq_self, or_true, true_or, or_false, false_or, if_true, if_false, Int.toNat_natCast, w_ite, Nat.add_zero, reduceCtorEq, ne_eq]
      exact this
    · rw [kx_h (h := 17) rfl rfl (Nat.le_of_ble_eq_true rfl)]
      show XX (d + 73) 248 19 [some (.ref c), some (.int (w l)), some (.int (w n)), some (.ref (c + 6799)), none] [] (mk S' I' L' R' G') Q
      simp (disch := omega) only [q_248_0, q_248_1, q_248_2, q_248_3, q_248_4, q_248_5, q_248_8, q_248_9, q_248_10, q_248_13, q_248_15, q_248_16, q_248_17, q_248_19, q_248_20, q_248_21, q_248_22, q_248_e, va_rf_s, bz_0, bz_1, bz_ok, bb_ok, Nat.add_assoc, w_lt, w_add, w_sub, w_mul, w_div, em_def, w_eq, w_inT, ↓ilt_t, ↓ilt_f, ↓ieq_t, ↓ieq_f, ntT, w_b, w_ix, kx_v, kx_n, kl_n, kl_i, kl_r, kl_o, inA_i, inA_s, inA_b, inA_z, inA_l, inA_0, inA_4, inA_5, inA_6, inA_7, inA_8, inA_9, inA_10, al_0, al_1, al_2, al_4, al_5, al_98, bsP_2, bsP_3, wr_same, wr_wr, wr_ne, up_same, up_ne, Nat.reduceAdd, Int.reduceAdd, Int.reduceSub, Int.reduceMul, Int.reduceLT, Int.reduceLE, Int.reduceEq, Int.reduceNeg, Int.reduceToNat, Nat.reduceLT, Nat.reduceLeDiff, Nat.reduceEqDiff, ↓reduceIte, true_and, and_true, not_true_eq_false, not_false_eq_true, eq_self, or_true, true_or, or_false, false_or, if_true, if_false, Int.toNat_natCast, w_ite, Nat.add_zero, reduceCtorEq, ne_eq]
      exact this
theorem sp_249 {l n x : Int} (h : LB S I L R G c s1 s2) (hf : few s1) (hl : B32 l) (hn : B32 n) (hx : B32 x) (hQ : HK S I G c s2 Q true (rLx s1 l x 2 (fun rs => vSaid rs n x))) : XC (d + 73) 249 [.ref c, .int (w l), .int (w n), .int (w x), .ref (c + 6799)] (mk S I L R G) Q := by
  have hc := h.1.1.1
  simp (disch := omega) only [q_249_0, q_249_2, q_249_3, q_249_4, q_249_5, q_249_6, q_249_7, q_249_10, q_249_11, q_249_12, q_249_15, q_249_17, q_249_18, q_249_19, q_249_21, q_249_22, q_249_23, q_249_24, q_249_e, va_rf_s, bz_0, bz_1, bz_ok, bb_ok, Nat.add_assoc, w_lt, w_add, w_sub, w_mul, w_div, em_def, w_eq, w_inT, ↓ilt_t, ↓ilt_f, ↓ieq_t, ↓ieq_f, ntT, w_b, w_ix, kx_v, kx_n, kl_n, kl_i, kl_r, kl_o, inA_i, inA_s, inA_b, inA_z, inA_l, inA_0, inA_4, inA_5, inA_6, inA_7, inA_8, inA_9, inA_10, al_0, al_1, al_2, al_4, al_5, al_98, bsP_2, bsP_3, wr_same, wr_wr, wr_ne, up_same, up_ne, Nat.reduceAdd, Int.reduceAdd, Int.reduceSub, Int.reduceMul, Int.reduceLT, Int.reduceLE, Int.reduceEq, Int.reduceNeg, Int.reduceToNat, Nat.reduceLT, Nat.reduceLeDiff, Nat.reduceEqDiff, ↓reduceIte, true_and, and_true, not_true_eq_false, not_false_eq_true, eq_self, or_true, true_or, or_false, false_or, if_true, if_false, Int.toNat_natCast, w_ite, Nat.add_zero, reduceCtorEq, ne_eq, hc]
  refine sp_119 h.1 hf hl hn hx (fun S' I' L' R' G' hC hF => ?_)
  obtain ⟨h', hL⟩ := h.cls hC hF
  have ho := h'.2.2.1
  cases hr : (rLx s1 l x 2 (fun rs => vSaid rs n x)).1 with
  | inl v =>
    have := hQ S' I' (wr L' (c + 6799) (up (L' (c + 6799)) 0 (w v).toInt64)) R' G' 0 (h'.out _) hL (by rw [hr]; exact ⟨rfl, by rw [wr_same, up_same]⟩)
    unfold outX
    simp (disch := omega) only [q_249_0, q_249_2, q_249_3, q_249_4, q_249_5, q_249_6, q_249_7, q_249_10, q_249_11, q_249_12, q_249_15, q_249_17, q_249_18, q_249_19, q_249_21, q_249_22, q_249_23, q_249_24, q_249_e, va_rf_s, bz_0, bz_1, bz_ok, bb_ok, Nat.add_assoc, w_lt, w_add, w_sub, w_mul, w_div, em_def, w_eq, w_inT, ↓ilt_t, ↓ilt_f, ↓ieq_t, ↓ieq_f, ntT, w_b, w_ix, kx_v, kx_n, kl_n, kl_i, kl_r, kl_o, inA_i, inA_s, inA_b, inA_z, inA_l, inA_0, inA_4, inA_5, inA_6, inA_7, inA_8, inA_9, inA_10, al_0, al_1, al_2, al_4, al_5, al_98, bsP_2, bsP_3, wr_same, wr_wr, wr_ne, up_same, up_ne, Nat.reduceAdd, Int.reduceAdd, Int.reduceSub, Int.reduceMul, Int.reduceLT, Int.reduceLE, Int.reduceEq, Int.reduceNeg, Int.reduceToNat, Nat.reduceLT, Nat.reduceLeDiff, Nat.reduceEqDiff, ↓reduceIte, true_and, and_true, not_true_eq_false, not_false_eq_true, eq_self, or_true, true_or, or_false, false_or, if_true, if_false, Int.toNat_natCast, w_ite, Nat.add_zero, reduceCtorEq, ne_eq, ho]
    exact this
  | inr E =>
    have hE := rLx_E hr
    have := hQ S' I' L' R' G' (tcode true E) h' hL (by rw [hr])
    unfold outX
    have hE2 : E = 0 ∨ E = 1 := by omega
    rcases hE2 with rfl | rfl
    · rw [kx_h (h := 15) rfl rfl (Nat.le_of_ble_eq_true rfl)]
      show XX (d + 73) 249 17 [some (.ref c), some (.int (w l)), some (.int (w n)), some (.int (w x)), some (.ref (c + 6799)), none] [] (mk S' I' L' R' G') Q
      simp (disch := omega) only [q_249_0, q_249_2, q_249_3, q_249_4, q_249_5, q_249_6, q_249_7, q_249_10, q_249_11, q_249_12, q_249_15, q_249_17, q_249_18, q_249_19, q_249_21, q_249_22, q_249_23, q_249_24, q_249_e, va_rf_s, bz_0, bz_1, bz_ok, bb_ok, Nat.add_assoc, w_lt, w_add, w_sub, w_mul, w_div, em_def, w_eq, w_inT, ↓ilt_t, ↓ilt_f, ↓ieq_t, ↓ieq_f, ntT, w_b, w_ix, kx_v, kx_n, kl_n, kl_i, kl_r, kl_o, inA_i, inA_s, inA_b, inA_z, inA_l, inA_0, inA_4, inA_5, inA_6, inA_7, inA_8, inA_9, inA_10, al_0, al_1, al_2, al_4, al_5, al_98, bsP_2, bsP_3, wr_same, wr_wr, wr_ne, up_same, up_ne, Nat.reduceAdd, Int.reduceAdd, Int.reduceSub, Int.reduceMul, Int.reduceLT, Int.reduceLE, Int.reduceEq, Int.reduceNeg, Int.reduceToNat, Nat.reduceLT, Nat.reduceLeDiff, Nat.reduceEqDiff, ↓reduceIte, true_and, and_true, not_true_eq_false, not_false_eq_true, eq_self, or_true, true_or, or_false, false_or, if_true, if_false, Int.toNat_natCast, w_ite, Nat.add_zero, reduceCtorEq, ne_eq]
      exact this
    · rw [kx_h (h := 19) rfl rfl (Nat.le_of_ble_eq_true rfl)]
      show XX (d + 73) 249 21 [some (.ref c), some (.int (w l)), some (.int (w n)), some (.int (w x)), some (.ref (c + 6799)), none] [] (mk S' I' L' R' G') Q
      simp (disch := omega) only [q_249_0, q_249_2, q_249_3, q_249_4, q_249_5, q_249_6, q_249_7, q_249_10, q_249_11, q_249_12, q_249_15, q_249_17, q_249_18, q_249_19, q_249_21, q_249_22, q_249_23, q_249_24, q_249_e, va_rf_s, bz_0, bz_1, bz_ok, bb_ok, Nat.add_assoc, w_lt, w_add, w_sub, w_mul, w_div, em_def, w_eq, w_inT, ↓ilt_t, ↓ilt_f, ↓ieq_t, ↓ieq_f, ntT, w_b, w_ix, kx_v, kx_n, kl_n, kl_i, kl_r, kl_o, inA_i, inA_s, inA_b, inA_z, inA_l, inA_0, inA_4, inA_5, inA_6, inA_7, inA_8, inA_9, inA_10, al_0, al_1, al_2, al_4, al_5, al_98, bsP_2, bsP_3, wr_same, wr_wr, wr_ne, up_same, up_ne, Nat.reduceAdd, Int.reduceAdd, Int.reduceSub, Int.reduceMul, Int.reduceLT, Int.reduceLE, Int.reduceEq, Int.reduceNeg, Int.reduceToNat, Nat.reduceLT, Nat.reduceLeDiff, Nat.reduceEqDiff, ↓reduceIte, true_and, and_true, not_true_eq_false, not_false_eq_true, eq_self, or_true, true_or, or_false, false_or, if_true, if_false, Int.toNat_natCast, w_ite, Nat.add_zero, reduceCtorEq, ne_eq]
      exact this
theorem sp_250 {l n x : Int} (h : LB S I L R G c s1 s2) (hf : few s1) (hl : B32 l) (hn : B32 n) (hx : B32 x) (hQ : HK S I G c s2 Q false (rLg s1 l (fun rs => vAt rs n x))) : XC (d + 73) 250 [.ref c, .int (w l), .int (w n), .int (w x), .ref (c + 6799)] (mk S I L R G) Q := by
  have hc := h.1.1.1
  simp (disch := omega) only [q_250_0, q_250_2, q_250_3, q_250_4, q_250_5, q_250_6, q_250_7, q_250_10, q_250_11, q_250_12, q_250_15, q_250_17, q_250_18, q_250_19, q_250_20, q_250_e, va_rf_s, bz_0, bz_1, bz_ok, bb_ok, Nat.add_assoc, w_lt, w_add, w_sub, w_mul, w_div, em_def, w_eq, w_inT, ↓ilt_t, ↓ilt_f, ↓ieq_t, ↓ieq_f, ntT, w_b, w_ix, kx_v, kx_n, kl_n, kl_i, kl_r, kl_o, inA_i, inA_s, inA_b, inA_z, inA_l, inA_0, inA_4, inA_5, inA_6, inA_7, inA_8, inA_9, inA_10, al_0, al_1, al_2, al_4, al_5, al_98, bsP_2, bsP_3, wr_same, wr_wr, wr_ne, up_same, up_ne, Nat.reduceAdd, Int.reduceAdd, Int.reduceSub, Int.reduceMul, Int.reduceLT, Int.reduceLE, Int.reduceEq, Int.reduceNeg, Int.reduceToNat, Nat.reduceLT, Nat.reduceLeDiff, Nat.reduceEqDiff, ↓reduceIte, true_and, and_true, not_true_eq_false, not_false_eq_true, eq_self, or_true, true_or, or_false, false_or, if_true, if_false, Int.toNat_natCast, w_ite, Nat.add_zero, reduceCtorEq, ne_eq, hc]
  refine sp_120 h.1 hf hl hn hx (fun S' I' L' R' G' hC hF => ?_)
  obtain ⟨h', hL⟩ := h.cls hC hF
  have ho := h'.2.2.1
  cases hr : (rLg s1 l (fun rs => vAt rs n x)).1 with
  | inl v =>
    have := hQ S' I' (wr L' (c + 6799) (up (L' (c + 6799)) 0 (w v).toInt64)) R' G' 0 (h'.out _) hL (by rw [hr]; exact ⟨rfl, by rw [wr_same, up_same]⟩)
    unfold outX
    simp (disch := omega) only [q_250_0, q_250_2, q_250_3, q_250_4, q_250_5, q_250_6, q_250_7, q_250_10, q_250_11, q_250_12, q_250_15, q_250_17, q_250_18, q_250_19, q_250_20, q_250_e, va_rf_s, bz_0, bz_1, bz_ok, bb_ok, Nat.add_assoc, w_lt, w_add, w_sub, w_mul, w_div, em_def, w_eq, w_inT, ↓ilt_t, ↓ilt_f, ↓ieq_t, ↓ieq_f, ntT, w_b, w_ix, kx_v, kx_n, kl_n, kl_i, kl_r, kl_o, inA_i, inA_s, inA_b, inA_z, inA_l, inA_0, inA_4, inA_5, inA_6, inA_7, inA_8, inA_9, inA_10, al_0, al_1, al_2, al_4, al_5, al_98, bsP_2, bsP_3, wr_same, wr_wr, wr_ne, up_same, up_ne, Nat.reduceAdd, Int.reduceAdd, Int.reduceSub, Int.reduceMul, Int.reduceLT, Int.reduceLE, Int.reduceEq, Int.reduceNeg, Int.reduceToNat, Nat.reduceLT, Nat.reduceLeDiff, Nat.reduceEqDiff, ↓reduceIte, true_and, and_true, not_true_eq_false, not_false_eq_true, eq_self, or_true, true_or, or_false, false_or, if_true, if_false, Int.toNat_natCast, w_ite, Nat.add_zero, reduceCtorEq, ne_eq, ho]
    exact this
  | inr E =>
    have hE := rLg_E hr
    have := hQ S' I' L' R' G' (tcode false E) h' hL (by rw [hr])
    unfold outX
    subst hE
    rw [kx_h (h := 15) rfl rfl (Nat.le_of_ble_eq_true rfl)]
    show XX (d + 73) 250 17 [some (.ref c), some (.int (w l)), some (.int (w n)), some (.int (w x)), some (.ref (c + 6799)), none] [] (mk S' I' L' R' G') Q
    simp (disch := omega) only [q_250_0, q_250_2, q_250_3, q_250_4, q_250_5, q_250_6, q_250_7, q_250_10, q_250_11, q_250_12, q_250_15, q_250_17, q_250_18, q_250_19, q_250_20, q_250_e, va_rf_s, bz_0, bz_1, bz_ok, bb_ok, Nat.add_assoc, w_lt, w_add, w_sub, w_mul, w_div, em_def, w_eq, w_inT, ↓ilt_t, ↓ilt_f, ↓ieq_t, ↓ieq_f, ntT, w_b, w_ix, kx_v, kx_n, kl_n, kl_i, kl_r, kl_o, inA_i, inA_s, inA_b, inA_z, inA_l, inA_0, inA_4, inA_5, inA_6, inA_7, inA_8, inA_9, inA_10, al_0, al_1, al_2, al_4, al_5, al_98, bsP_2, bsP_3, wr_same, wr_wr, wr_ne, up_same, up_ne, Nat.reduceAdd, Int.reduceAdd, Int.reduceSub, Int.reduceMul, Int.reduceLT, Int.reduceLE, Int.reduceEq, Int.reduceNeg, Int.reduceToNat, Nat.reduceLT, Nat.reduceLeDiff, Nat.reduceEqDiff, ↓reduceIte, true_and, and_true, not_true_eq_false, not_false_eq_true, eq_self, or_true, true_or, or_false, false_or, if_true, if_false, Int.toNat_natCast, w_ite, Nat.add_zero, reduceCtorEq, ne_eq]
    exact this
theorem sp_251 {l n : Int} (h : LB S I L R G c s1 s2) (hf : few s1) (hl : B32 l) (hn : B32 n) (hQ : HK S I G c s2 Q false (rLg s1 l (fun rs => vAsked rs n))) : XC (d + 73) 251 [.ref c, .int (w l), .int (w n), .ref (c + 6799)] (mk S I L R G) Q := by
  have hc := h.1.1.1
  simp (disch := omega) only [q_251_0, q_251_1, q_251_2, q_251_3, q_251_4, q_251_5, q_251_8, q_251_9, q_251_10, q_251_13, q_251_15, q_251_16, q_251_17, q_251_18, q_251_e, va_rf_s, bz_0, bz_1, bz_ok, bb_ok, Nat.add_assoc, w_lt, w_add, w_sub, w_mul, w_div, em_def, w_eq, w_inT, ↓ilt_t, ↓ilt_f, ↓ieq_t, ↓ieq_f, ntT, w_b, w_ix, kx_v, kx_n, kl_n, kl_i, kl_r, kl_o, inA_i, inA_s, inA_b, inA_z, inA_l, inA_0, inA_4, inA_5, inA_6, inA_7, inA_8, inA_9, inA_10, al_0, al_1, al_2, al_4, al_5, al_98, bsP_2, bsP_3, wr_same, wr_wr, wr_ne, up_same, up_ne, Nat.reduceAdd, Int.reduceAdd, Int.reduceSub, Int.reduceMul, Int.reduceLT, Int.reduceLE, Int.reduceEq, Int.reduceNeg, Int.reduceToNat, Nat.reduceLT, Nat.reduceLeDiff, Nat.reduceEqDiff, ↓reduceIte, true_and, and_true, not_true_eq_false, not_false_eq_true, eq_self, or_true, true_or, or_false, false_or, if_true, if_false, Int.toNat_natCast, w_ite, Nat.add_zero, reduceCtorEq, ne_eq, hc]
  refine sp_121 h.1 hf hl hn (fun S' I' L' R' G' hC hF => ?_)
  obtain ⟨h', hL⟩ := h.cls hC hF
  have ho := h'.2.2.1
  cases hr : (rLg s1 l (fun rs => vAsked rs n)).1 with
  | inl v =>
    have := hQ S' I' (wr L' (c + 6799) (up (L' (c + 6799)) 0 (w v).toInt64)) R' G' 0 (h'.out _) hL (by rw [hr]; exact ⟨rfl, by rw [wr_same, up_same]⟩)
    unfold outX
    simp (disch := omega) only [q_251_0, q_251_1, q_251_2, q_251_3, q_251_4, q_251_5, q_251_8, q_251_9, q_251_10, q_251_13, q_251_15, q_251_16, q_251_17, q_251_18, q_251_e, va_rf_s, bz_0, bz_1, bz_ok, bb_ok, Nat.add_assoc, w_lt, w_add, w_sub, w_mul, w_div, em_def, w_eq, w_inT, ↓ilt_t, ↓ilt_f, ↓ieq_t, ↓ieq_f, ntT, w_b, w_ix, kx_v, kx_n, kl_n, kl_i, kl_r, kl_o, inA_i, inA_s, inA_b, inA_z, inA_l, inA_0, inA_4, inA_5, inA_6, inA_7, inA_8, inA_9, inA_10, al_0, al_1, al_2, al_4, al_5, al_98, bsP_2, bsP_3, wr_same, wr_wr, wr_ne, up_same, up_ne, Nat.reduceAdd, Int.reduceAdd, Int.reduceSub, Int.reduceMul, Int.reduceLT, Int.reduceLE, Int.reduceEq, Int.reduceNeg, Int.reduceToNat, Nat.reduceLT, Nat.reduceLeDiff, Nat.reduceEqDiff, ↓reduceIte, true_and, and_true, not_true_eq_false, not_false_eq_true, eq_self, or_true, true_or, or_false, false_or, if_true, if_false, Int.toNat_natCast, w_ite, Nat.add_zero, reduceCtorEq, ne_eq, ho]
    exact this
  | inr E =>
    have hE := rLg_E hr
    have := hQ S' I' L' R' G' (tcode false E) h' hL (by rw [hr])
    unfold outX
    subst hE
    rw [kx_h (h := 13) rfl rfl (Nat.le_of_ble_eq_true rfl)]
    show XX (d + 73) 251 15 [some (.ref c), some (.int (w l)), some (.int (w n)), some (.ref (c + 6799)), none] [] (mk S' I' L' R' G') Q
    simp (disch := omega) only [q_251_0, q_251_1, q_251_2, q_251_3, q_251_4, q_251_5, q_251_8, q_251_9, q_251_10, q_251_13, q_251_15, q_251_16, q_251_17, q_251_18, q_251_e, va_rf_s, bz_0, bz_1, bz_ok, bb_ok, Nat.add_assoc, w_lt, w_add, w_sub, w_mul, w_div, em_def, w_eq, w_inT, ↓ilt_t, ↓ilt_f, ↓ieq_t, ↓ieq_f, ntT, w_b, w_ix, kx_v, kx_n, kl_n, kl_i, kl_r, kl_o, inA_i, inA_s, inA_b, inA_z, inA_l, inA_0, inA_4, inA_5, inA_6, inA_7, inA_8, inA_9, inA_10, al_0, al_1, al_2, al_4, al_5, al_98, bsP_2, bsP_3, wr_same, wr_wr, wr_ne, up_same, up_ne, Nat.reduceAdd, Int.reduceAdd, Int.reduceSub, Int.reduceMul, Int.reduceLT, Int.reduceLE, Int.reduceEq, Int.reduceNeg, Int.reduceToNat, Nat.reduceLT, Nat.reduceLeDiff, Nat.reduceEqDiff, ↓reduceIte, true_and, and_true, not_true_eq_false, not_false_eq_true, eq_self, or_true, true_or, or_false, false_or, if_true, if_false, Int.toNat_natCast, w_ite, Nat.add_zero, reduceCtorEq, ne_eq]
    exact this
theorem sp_252 {l n : Int} (h : LB S I L R G c s1 s2) (hf : few s1) (hl : B32 l) (hn : B32 n) (hQ : HK S I G c s2 Q false (rLg s1 l (fun rs => vCauses rs n))) : XC (d + 73) 252 [.ref c, .int (w l), .int (w n), .ref (c + 6799)] (mk S I L R G) Q := by
  have hc := h.1.1.1
  simp (disch := omega) only [q_252_0, q_252_1, q_252_2, q_252_3, q_252_4, q_252_5, q_252_8, q_252_9, q_252_10, q_252_13, q_252_15, q_252_16, q_252_17, q_252_18, q_252_e, va_rf_s, bz_0, bz_1, bz_ok, bb_ok, Nat.add_assoc, w_lt, w_add, w_sub, w_mul, w_div, em_def, w_eq, w_inT, ↓ilt_t, ↓ilt_f, ↓ieq_t, ↓ieq_f, ntT, w_b, w_ix, kx_v, kx_n, kl_n, kl_i, kl_r, kl_o, inA_i, inA_s, inA_b, inA_z, inA_l, inA_0, inA_4, inA_5, inA_6, inA_7, inA_8, inA_9, inA_10, al_0, al_1, al_2, al_4, al_5, al_98, bsP_2, bsP_3, wr_same, wr_wr, wr_ne, up_same, up_ne, Nat.reduceAdd, Int.reduceAdd, Int.reduceSub, Int.reduceMul, Int.reduceLT, Int.reduceLE, Int.reduceEq, Int.reduceNeg, Int.reduceToNat, Nat.reduceLT, Nat.reduceLeDiff, Nat.reduceEqDiff, ↓reduceIte, true_and, and_true, not_true_eq_false, not_false_eq_true, eq_self, or_true, true_or, or_false, false_or, if_true, if_false, Int.toNat_natCast, w_ite, Nat.add_zero, reduceCtorEq, ne_eq, hc]
  refine sp_122 h.1 hf hl hn (fun S' I' L' R' G' hC hF => ?_)
  obtain ⟨h', hL⟩ := h.cls hC hF
  have ho := h'.2.2.1
  cases hr : (rLg s1 l (fun rs => vCauses rs n)).1 with
  | inl v =>
    have := hQ S' I' (wr L' (c + 6799) (up (L' (c + 6799)) 0 (w v).toInt64)) R' G' 0 (h'.out _) hL (by rw [hr]; exact ⟨rfl, by rw [wr_same, up_same]⟩)
    unfold outX
    simp (disch := omega) only [q_252_0, q_252_1, q_252_2, q_252_3, q_252_4, q_252_5, q_252_8, q_252_9, q_252_10, q_252_13, q_252_15, q_252_16, q_252_17, q_252_18, q_252_e, va_rf_s, bz_0, bz_1, bz_ok, bb_ok, Nat.add_assoc, w_lt, w_add, w_sub, w_mul, w_div, em_def, w_eq, w_inT, ↓ilt_t, ↓ilt_f, ↓ieq_t, ↓ieq_f, ntT, w_b, w_ix, kx_v, kx_n, kl_n, kl_i, kl_r, kl_o, inA_i, inA_s, inA_b, inA_z, inA_l, inA_0, inA_4, inA_5, inA_6, inA_7, inA_8, inA_9, inA_10, al_0, al_1, al_2, al_4, al_5, al_98, bsP_2, bsP_3, wr_same, wr_wr, wr_ne, up_same, up_ne, Nat.reduceAdd, Int.reduceAdd, Int.reduceSub, Int.reduceMul, Int.reduceLT, Int.reduceLE, Int.reduceEq, Int.reduceNeg, Int.reduceToNat, Nat.reduceLT, Nat.reduceLeDiff, Nat.reduceEqDiff, ↓reduceIte, true_and, and_true, not_true_eq_false, not_false_eq_true, eq_self, or_true, true_or, or_false, false_or, if_true, if_false, Int.toNat_natCast, w_ite, Nat.add_zero, reduceCtorEq, ne_eq, ho]
    exact this
  | inr E =>
    have hE := rLg_E hr
    have := hQ S' I' L' R' G' (tcode false E) h' hL (by rw [hr])
    unfold outX
    subst hE
    rw [kx_h (h := 13) rfl rfl (Nat.le_of_ble_eq_true rfl)]
    show XX (d + 73) 252 15 [some (.ref c), some (.int (w l)), some (.int (w n)), some (.ref (c + 6799)), none] [] (mk S' I' L' R' G') Q
    simp (disch := omega) only [q_252_0, q_252_1, q_252_2, q_252_3, q_252_4, q_252_5, q_252_8, q_252_9, q_252_10, q_252_13, q_252_15, q_252_16, q_252_17, q_252_18, q_252_e, va_rf_s, bz_0, bz_1, bz_ok, bb_ok, Nat.add_assoc, w_lt, w_add, w_sub, w_mul, w_div, em_def, w_eq, w_inT, ↓ilt_t, ↓ilt_f, ↓ieq_t, ↓ieq_f, ntT, w_b, w_ix, kx_v, kx_n, kl_n, kl_i, kl_r, kl_o, inA_i, inA_s, inA_b, inA_z, inA_l, inA_0, inA_4, inA_5, inA_6, inA_7, inA_8, inA_9, inA_10, al_0, al_1, al_2, al_4, al_5, al_98, bsP_2, bsP_3, wr_same, wr_wr, wr_ne, up_same, up_ne, Nat.reduceAdd, Int.reduceAdd, Int.reduceSub, Int.reduceMul, Int.reduceLT, Int.reduceLE, Int.reduceEq, Int.reduceNeg, Int.reduceToNat, Nat.reduceLT, Nat.reduceLeDiff, Nat.reduceEqDiff, ↓reduceIte, true_and, and_true, not_true_eq_false, not_false_eq_true, eq_self, or_true, true_or, or_false, false_or, if_true, if_false, Int.toNat_natCast, w_ite, Nat.add_zero, reduceCtorEq, ne_eq]
    exact this
theorem sp_253 {l n q x : Int} (h : LB S I L R G c s1 s2) (hf : few s1) (hl : B32 l) (hn : B32 n) (hq : B32 q) (hx : B32 x) (hQ : HK S I G c s2 Q true (rCause s1 l n q x)) : XC (d + 73) 253 [.ref c, .int (w l), .int (w n), .int (w q), .int (w x), .ref (c + 6799)] (mk S I L R G) Q := by
  have hc := h.1.1.1
  simp (disch := omega) only [q_253_0, q_253_2, q_253_3, q_253_4, q_253_5, q_253_6, q_253_7, q_253_9, q_253_12, q_253_13, q_253_14, q_253_17, q_253_19, q_253_20, q_253_21, q_253_23, q_253_24, q_253_25, q_253_26, q_253_e, va_rf_s, bz_0, bz_1, bz_ok, bb_ok, Nat.add_assoc, w_lt, w_add, w_sub, w_mul, w_div, em_def, w_eq, w_inT, ↓ilt_t, ↓ilt_f, ↓ieq_t, ↓ieq_f, ntT, w_b, w_ix, kx_v, kx_n, kl_n, kl_i, kl_r, kl_o, inA_i, inA_s, inA_b, inA_z, inA_l, inA_0, inA_4, inA_5, inA_6, inA_7, inA_8, inA_9, inA_10, al_0, al_1, al_2, al_4, al_5, al_98, bsP_2, bsP_3, wr_same, wr_wr, wr_ne, up_same, up_ne, Nat.reduceAdd, Int.reduceAdd, Int.reduceSub, Int.reduceMul, Int.reduceLT, Int.reduceLE, Int.reduceEq, Int.reduceNeg, Int.reduceToNat, Nat.reduceLT, Nat.reduceLeDiff, Nat.reduceEqDiff, ↓reduceIte, true_and, and_true, not_true_eq_false, not_false_eq_true, eq_self, or_true, true_or, or_false, false_or, if_true, if_false, Int.toNat_natCast, w_ite, Nat.add_zero, reduceCtorEq, ne_eq, hc]
  refine sp_123 h.1 hf hl hn hq hx (fun S' I' L' R' G' hC hF => ?_)
  obtain ⟨h', hL⟩ := h.cls hC hF
  have ho := h'.2.2.1
  cases hr : (rCause s1 l n q x).1 with
  | inl v =>
    have := hQ S' I' (wr L' (c + 6799) (up (L' (c + 6799)) 0 (w v).toInt64)) R' G' 0 (h'.out _) hL (by rw [hr]; exact ⟨rfl, by rw [wr_same, up_same]⟩)
    unfold outX
    simp (disch := omega) only [q_253_0, q_253_2, q_253_3, q_253_4, q_253_5, q_253_6, q_253_7, q_253_9, q_253_12, q_253_13, q_253_14, q_253_17, q_253_19, q_253_20, q_253_21, q_253_23, q_253_24, q_253_25, q_253_26, q_253_e, va_rf_s, bz_0, bz_1, bz_ok, bb_ok, Nat.add_assoc, w_lt, w_add, w_sub, w_mul, w_div, em_def, w_eq, w_inT, ↓ilt_t, ↓ilt_f, ↓ieq_t, ↓ieq_f, ntT, w_b, w_ix, kx_v, kx_n, kl_n, kl_i, kl_r, kl_o, inA_i, inA_s, inA_b, inA_z, inA_l, inA_0, inA_4, inA_5, inA_6, inA_7, inA_8, inA_9, inA_10, al_0, al_1, al_2, al_4, al_5, al_98, bsP_2, bsP_3, wr_same, wr_wr, wr_ne, up_same, up_ne, Nat.reduceAdd, Int.reduceAdd, Int.reduceSub, Int.reduceMul, Int.reduceLT, Int.reduceLE, Int.reduceEq, Int.reduceNeg, Int.reduceToNat, Nat.reduceLT, Nat.reduceLeDiff, Nat.reduceEqDiff, ↓reduceIte, true_and, and_true, not_true_eq_false, not_false_eq_true, eq_self, or_true, true_or, or_false, false_or, if_true, if_false, Int.toNat_natCast, w_ite, Nat.add_zero, reduceCtorEq, ne_eq, ho]
    exact this
  | inr E =>
    have hE := rCause_E hr
    have := hQ S' I' L' R' G' (tcode true E) h' hL (by rw [hr])
    unfold outX
    have hE2 : E = 0 ∨ E = 1 := by omega
    rcases hE2 with rfl | rfl
    · rw [kx_h (h := 17) rfl rfl (Nat.le_of_ble_eq_true rfl)]
      show XX (d + 73) 253 19 [some (.ref c), some (.int (w l)), some (.int (w n)), some (.int (w q)), some (.int (w x)), some (.ref (c + 6799)), none] [] (mk S' I' L' R' G') Q
      simp (disch := omega) only [q_253_0, q_253_2, q_253_3, q_253_4, q_253_5, q_253_6, q_253_7, q_253_9, q_253_12, q_253_13, q_253_14, q_253_17, q_253_19, q_253_20, q_253_21, q_253_23, q_253_24, q_253_25, q_253_26, q_253_e, va_rf_s, bz_0, bz_1, bz_ok, bb_ok, Nat.add_assoc, w_lt, w_add, w_sub, w_mul, w_div, em_def, w_eq, w_inT, ↓ilt_t, ↓ilt_f, ↓ieq_t, ↓ieq_f, ntT, w_b, w_ix, kx_v, kx_n, kl_n, kl_i, kl_r, kl_o, inA_i, inA_s, inA_b, inA_z, inA_l, inA_0, inA_4, inA_5, inA_6, inA_7, inA_8, inA_9, inA_10, al_0, al_1, al_2, al_4, al_5, al_98, bsP_2, bsP_3, wr_same, wr_wr, wr_ne, up_same, up_ne, Nat.reduceAdd, Int.reduceAdd, Int.reduceSub, Int.reduceMul, Int.reduceLT, Int.reduceLE, Int.reduceEq, Int.reduceNeg, Int.reduceToNat, Nat.reduceLT, Nat.reduceLeDiff, Nat.reduceEqDiff, ↓reduceIte, true_and, and_true, not_true_eq_false, not_false_eq_true, eq_self, or_true, true_or, or_false, false_or, if_true, if_false, Int.toNat_natCast, w_ite, Nat.add_zero, reduceCtorEq, ne_eq]
      exact this
    · rw [kx_h (h := 21) rfl rfl (Nat.le_of_ble_eq_true rfl)]
      show XX (d + 73) 253 23 [some (.ref c), some (.int (w l)), some (.int (w n)), some (.int (w q)), some (.int (w x)), some (.ref (c + 6799)), none] [] (mk S' I' L' R' G') Q
      simp (disch := omega) only [q_253_0, q_253_2, q_253_3, q_253_4, q_253_5, q_253_6, q_253_7, q_253_9, q_253_12, q_253_13, q_253_14, q_253_17, q_253_19, q_253_20, q_253_21, q_253_23, q_253_24, q_253_25, q_253_26, q_253_e, va_rf_s, bz_0, bz_1, bz_ok, bb_ok, Nat.add_assoc, w_lt, w_add, w_sub, w_mul, w_div, em_def, w_eq, w_inT, ↓ilt_t, ↓ilt_f, ↓ieq_t, ↓ieq_f, ntT, w_b, w_ix, kx_v, kx_n, kl_n, kl_i, kl_r, kl_o, inA_i, inA_s, inA_b, inA_z, inA_l, inA_0, inA_4, inA_5, inA_6, inA_7, inA_8, inA_9, inA_10, al_0, al_1, al_2, al_4, al_5, al_98, bsP_2, bsP_3, wr_same, wr_wr, wr_ne, up_same, up_ne, Nat.reduceAdd, Int.reduceAdd, Int.reduceSub, Int.reduceMul, Int.reduceLT, Int.reduceLE, Int.reduceEq, Int.reduceNeg, Int.reduceToNat, Nat.reduceLT, Nat.reduceLeDiff, Nat.reduceEqDiff, ↓reduceIte, true_and, and_true, not_true_eq_false, not_false_eq_true, eq_self, or_true, true_or, or_false, false_or, if_true, if_false, Int.toNat_natCast, w_ite, Nat.add_zero, reduceCtorEq, ne_eq]
      exact this
theorem sp_254 {l x : Int} (h : LB S I L R G c s1 s2) (hf : few s1) (hl : B32 l) (hx : B32 x) (hQ : HK S I G c s2 Q true (rLx s1 l x 4 (fun rs => vSilent rs s1.2.1.1 x))) : XC (d + 73) 254 [.ref c, .int (w l), .int (w x), .ref (c + 6799)] (mk S I L R G) Q := by
  have hc := h.1.1.1
  simp (disch := omega) only [q_254_0, q_254_1, q_254_2, q_254_3, q_254_4, q_254_5, q_254_8, q_254_9, q_254_10, q_254_13, q_254_15, q_254_16, q_254_17, q_254_19, q_254_20, q_254_21, q_254_22, q_254_e, va_rf_s, bz_0, bz_1, bz_ok, bb_ok, Nat.add_assoc, w_lt, w_add, w_sub, w_mul, w_div, em_def, w_eq, w_inT, ↓ilt_t, ↓ilt_f, ↓ieq_t, ↓ieq_f, ntT, w_b, w_ix, kx_v, kx_n, kl_n, kl_i, kl_r, kl_o, inA_i, inA_s, inA_b, inA_z, inA_l, inA_0, inA_4, inA_5, inA_6, inA_7, inA_8, inA_9, inA_10, al_0, al_1, al_2, al_4, al_5, al_98, bsP_2, bsP_3, wr_same, wr_wr, wr_ne, up_same, up_ne, Nat.reduceAdd, Int.reduceAdd, Int.reduceSub, Int.reduceMul, Int.reduceLT, Int.reduceLE, Int.reduceEq, Int.reduceNeg, Int.reduceToNat, Nat.reduceLT, Nat.reduceLeDiff, Nat.reduceEqDiff, ↓reduceIte, true_and, and_true, not_true_eq_false, not_false_eq_true, eq_self, or_true, true_or, or_false, false_or, if_true, if_false, Int.toNat_natCast, w_ite, Nat.add_zero, reduceCtorEq, ne_eq, hc]
  refine sp_124 h.1 hf hl hx (fun S' I' L' R' G' hC hF => ?_)
  obtain ⟨h', hL⟩ := h.cls hC hF
  have ho := h'.2.2.1
  cases hr : (rLx s1 l x 4 (fun rs => vSilent rs s1.2.1.1 x)).1 with
  | inl v =>
    have := hQ S' I' (wr L' (c + 6799) (up (L' (c + 6799)) 0 (w v).toInt64)) R' G' 0 (h'.out _) hL (by rw [hr]; exact ⟨rfl, by rw [wr_same, up_same]⟩)
    unfold outX
    simp (disch := omega) only [q_254_0, q_254_1, q_254_2, q_254_3, q_254_4, q_254_5, q_254_8, q_254_9, q_254_10, q_254_13, q_254_15, q_254_16, q_254_17, q_254_19, q_254_20, q_254_21, q_254_22, q_254_e, va_rf_s, bz_0, bz_1, bz_ok, bb_ok, Nat.add_assoc, w_lt, w_add, w_sub, w_mul, w_div, em_def, w_eq, w_inT, ↓ilt_t, ↓ilt_f, ↓ieq_t, ↓ieq_f, ntT, w_b, w_ix, kx_v, kx_n, kl_n, kl_i, kl_r, kl_o, inA_i, inA_s, inA_b, inA_z, inA_l, inA_0, inA_4, inA_5, inA_6, inA_7, inA_8, inA_9, inA_10, al_0, al_1, al_2, al_4, al_5, al_98, bsP_2, bsP_3, wr_same, wr_wr, wr_ne, up_same, up_ne, Nat.reduceAdd, Int.reduceAdd, Int.reduceSub, Int.reduceMul, Int.reduceLT, Int.reduceLE, Int.reduceEq, Int.reduceNeg, Int.reduceToNat, Nat.reduceLT, Nat.reduceLeDiff, Nat.reduceEqDiff, ↓reduceIte, true_and, and_true, not_true_eq_false, not_false_eq_true, eq_self, or_true, true_or, or_false, false_or, if_true, if_false, Int.toNat_natCast, w_ite, Nat.add_zero, reduceCtorEq, ne_eq, ho]
    exact this
  | inr E =>
    have hE := rLx_E hr
    have := hQ S' I' L' R' G' (tcode true E) h' hL (by rw [hr])
    unfold outX
    have hE2 : E = 0 ∨ E = 1 := by omega
    rcases hE2 with rfl | rfl
    · rw [kx_h (h := 13) rfl rfl (Nat.le_of_ble_eq_true rfl)]
      show XX (d + 73) 254 15 [some (.ref c), some (.int (w l)), some (.int (w x)), some (.ref (c + 6799)), none] [] (mk S' I' L' R' G') Q
      simp (disch := omega) only [q_254_0, q_254_1, q_254_2, q_254_3, q_254_4, q_254_5, q_254_8, q_254_9, q_254_10, q_254_13, q_254_15, q_254_16, q_254_17, q_254_19, q_254_20, q_254_21, q_254_22, q_254_e, va_rf_s, bz_0, bz_1, bz_ok, bb_ok, Nat.add_assoc, w_lt, w_add, w_sub, w_mul, w_div, em_def, w_eq, w_inT, ↓ilt_t, ↓ilt_f, ↓ieq_t, ↓ieq_f, ntT, w_b, w_ix, kx_v, kx_n, kl_n, kl_i, kl_r, kl_o, inA_i, inA_s, inA_b, inA_z, inA_l, inA_0, inA_4, inA_5, inA_6, inA_7, inA_8, inA_9, inA_10, al_0, al_1, al_2, al_4, al_5, al_98, bsP_2, bsP_3, wr_same, wr_wr, wr_ne, up_same, up_ne, Nat.reduceAdd, Int.reduceAdd, Int.reduceSub, Int.reduceMul, Int.reduceLT, Int.reduceLE, Int.reduceEq, Int.reduceNeg, Int.reduceToNat, Nat.reduceLT, Nat.reduceLeDiff, Nat.reduceEqDiff, ↓reduceIte, true_and, and_true, not_true_eq_false, not_false_eq_true, eq_self, or_true, true_or, or_false, false_or, if_true, if_false, Int.toNat_natCast, w_ite, Nat.add_zero, reduceCtorEq, ne_eq]
      exact this
    · rw [kx_h (h := 17) rfl rfl (Nat.le_of_ble_eq_true rfl)]
      show XX (d + 73) 254 19 [some (.ref c), some (.int (w l)), some (.int (w x)), some (.ref (c + 6799)), none] [] (mk S' I' L' R' G') Q
      simp (disch := omega) only [q_254_0, q_254_1, q_254_2, q_254_3, q_254_4, q_254_5, q_254_8, q_254_9, q_254_10, q_254_13, q_254_15, q_254_16, q_254_17, q_254_19, q_254_20, q_254_21, q_254_22, q_254_e, va_rf_s, bz_0, bz_1, bz_ok, bb_ok, Nat.add_assoc, w_lt, w_add, w_sub, w_mul, w_div, em_def, w_eq, w_inT, ↓ilt_t, ↓ilt_f, ↓ieq_t, ↓ieq_f, ntT, w_b, w_ix, kx_v, kx_n, kl_n, kl_i, kl_r, kl_o, inA_i, inA_s, inA_b, inA_z, inA_l, inA_0, inA_4, inA_5, inA_6, inA_7, inA_8, inA_9, inA_10, al_0, al_1, al_2, al_4, al_5, al_98, bsP_2, bsP_3, wr_same, wr_wr, wr_ne, up_same, up_ne, Nat.reduceAdd, Int.reduceAdd, Int.reduceSub, Int.reduceMul, Int.reduceLT, Int.reduceLE, Int.reduceEq, Int.reduceNeg, Int.reduceToNat, Nat.reduceLT, Nat.reduceLeDiff, Nat.reduceEqDiff, ↓reduceIte, true_and, and_true, not_true_eq_false, not_false_eq_true, eq_self, or_true, true_or, or_false, false_or, if_true, if_false, Int.toNat_natCast, w_ite, Nat.add_zero, reduceCtorEq, ne_eq]
      exact this
theorem sp_255 {l x : Int} (h : LB S I L R G c s1 s2) (hf : few s1) (hl : B32 l) (hx : B32 x) (hQ : HK S I G c s2 Q true (rLx s1 l x 3 (fun rs => vAlike rs s1.2.1.1 x))) : XC (d + 73) 255 [.ref c, .int (w l), .int (w x), .ref (c + 6799)] (mk S I L R G) Q := by
  have hc := h.1.1.1
  simp (disch := omega) only [q_255_0, q_255_1, q_255_2, q_255_3, q_255_4, q_255_5, q_255_8, q_255_9, q_255_10, q_255_13, q_255_15, q_255_16, q_255_17, q_255_19, q_255_20, q_255_21, q_255_22, q_255_e, va_rf_s, bz_0, bz_1, bz_ok, bb_ok, Nat.add_assoc, w_lt, w_add, w_sub, w_mul, w_div, em_def, w_eq, w_inT, ↓ilt_t, ↓ilt_f, ↓ieq_t, ↓ieq_f, ntT, w_b, w_ix, kx_v, kx_n, kl_n, kl_i, kl_r, kl_o, inA_i, inA_s, inA_b, inA_z, inA_l, inA_0, inA_4, inA_5, inA_6, inA_7, inA_8, inA_9, inA_10, al_0, al_1, al_2, al_4, al_5, al_98, bsP_2, bsP_3, wr_same, wr_wr, wr_ne, up_same, up_ne, Nat.reduceAdd, Int.reduceAdd, Int.reduceSub, Int.reduceMul, Int.reduceLT, Int.reduceLE, Int.reduceEq, Int.reduceNeg, Int.reduceToNat, Nat.reduceLT, Nat.reduceLeDiff, Nat.reduceEqDiff, ↓reduceIte, true_and, and_true, not_true_eq_false, not_false_eq_true, eq_self, or_true, true_or, or_false, false_or, if_true, if_false, Int.toNat_natCast, w_ite, Nat.add_zero, reduceCtorEq, ne_eq, hc]
  refine sp_125 h.1 hf hl hx (fun S' I' L' R' G' hC hF => ?_)
  obtain ⟨h', hL⟩ := h.cls hC hF
  have ho := h'.2.2.1
  cases hr : (rLx s1 l x 3 (fun rs => vAlike rs s1.2.1.1 x)).1 with
  | inl v =>
    have := hQ S' I' (wr L' (c + 6799) (up (L' (c + 6799)) 0 (w v).toInt64)) R' G' 0 (h'.out _) hL (by rw [hr]; exact ⟨rfl, by rw [wr_same, up_same]⟩)
    unfold outX
    simp (disch := omega) only [q_255_0, q_255_1, q_255_2, q_255_3, q_255_4, q_255_5, q_255_8, q_255_9, q_255_10, q_255_13, q_255_15, q_255_16, q_255_17, q_255_19, q_255_20, q_255_21, q_255_22, q_255_e, va_rf_s, bz_0, bz_1, bz_ok, bb_ok, Nat.add_assoc, w_lt, w_add, w_sub, w_mul, w_div, em_def, w_eq, w_inT, ↓ilt_t, ↓ilt_f, ↓ieq_t, ↓ieq_f, ntT, w_b, w_ix, kx_v, kx_n, kl_n, kl_i, kl_r, kl_o, inA_i, inA_s, inA_b, inA_z, inA_l, inA_0, inA_4, inA_5, inA_6, inA_7, inA_8, inA_9, inA_10, al_0, al_1, al_2, al_4, al_5, al_98, bsP_2, bsP_3, wr_same, wr_wr, wr_ne, up_same, up_ne, Nat.reduceAdd, Int.reduceAdd, Int.reduceSub, Int.reduceMul, Int.reduceLT, Int.reduceLE, Int.reduceEq, Int.reduceNeg, Int.reduceToNat, Nat.reduceLT, Nat.reduceLeDiff, Nat.reduceEqDiff, ↓reduceIte, true_and, and_true, not_true_eq_false, not_false_eq_true, eq_self, or_true, true_or, or_false, false_or, if_true, if_false, Int.toNat_natCast, w_ite, Nat.add_zero, reduceCtorEq, ne_eq, ho]
    exact this
  | inr E =>
    have hE := rLx_E hr
    have := hQ S' I' L' R' G' (tcode true E) h' hL (by rw [hr])
    unfold outX
    have hE2 : E = 0 ∨ E = 1 := by omega
    rcases hE2 with rfl | rfl
    · rw [kx_h (h := 13) rfl rfl (Nat.le_of_ble_eq_true rfl)]
      show XX (d + 73) 255 15 [some (.ref c), some (.int (w l)), some (.int (w x)), some (.ref (c + 6799)), none] [] (mk S' I' L' R' G') Q
      simp (disch := omega) only [q_255_0, q_255_1, q_255_2, q_255_3, q_255_4, q_255_5, q_255_8, q_255_9, q_255_10, q_255_13, q_255_15, q_255_16, q_255_17, q_255_19, q_255_20, q_255_21, q_255_22, q_255_e, va_rf_s, bz_0, bz_1, bz_ok, bb_ok, Nat.add_assoc, w_lt, w_add, w_sub, w_mul, w_div, em_def, w_eq, w_inT, ↓ilt_t, ↓ilt_f, ↓ieq_t, ↓ieq_f, ntT, w_b, w_ix, kx_v, kx_n, kl_n, kl_i, kl_r, kl_o, inA_i, inA_s, inA_b, inA_z, inA_l, inA_0, inA_4, inA_5, inA_6, inA_7, inA_8, inA_9, inA_10, al_0, al_1, al_2, al_4, al_5, al_98, bsP_2, bsP_3, wr_same, wr_wr, wr_ne, up_same, up_ne, Nat.reduceAdd, Int.reduceAdd, Int.reduceSub, Int.reduceMul, Int.reduceLT, Int.reduceLE, Int.reduceEq, Int.reduceNeg, Int.reduceToNat, Nat.reduceLT, Nat.reduceLeDiff, Nat.reduceEqDiff, ↓reduceIte, true_and, and_true, not_true_eq_false, not_false_eq_true, eq_self, or_true, true_or, or_false, false_or, if_true, if_false, Int.toNat_natCast, w_ite, Nat.add_zero, reduceCtorEq, ne_eq]
      exact this
    · rw [kx_h (h := 17) rfl rfl (Nat.le_of_ble_eq_true rfl)]
      show XX (d + 73) 255 19 [some (.ref c), some (.int (w l)), some (.int (w x)), some (.ref (c + 6799)), none] [] (mk S' I' L' R' G') Q
      simp (disch := omega) only [q_255_0, q_255_1, q_255_2, q_255_3, q_255_4, q_255_5, q_255_8, q_255_9, q_255_10, q_255_13, q_255_15, q_255_16, q_255_17, q_255_19, q_255_20, q_255_21, q_255_22, q_255_e, va_rf_s, bz_0, bz_1, bz_ok, bb_ok, Nat.add_assoc, w_lt, w_add, w_sub, w_mul, w_div, em_def, w_eq, w_inT, ↓ilt_t, ↓ilt_f, ↓ieq_t, ↓ieq_f, ntT, w_b, w_ix, kx_v, kx_n, kl_n, kl_i, kl_r, kl_o, inA_i, inA_s, inA_b, inA_z, inA_l, inA_0, inA_4, inA_5, inA_6, inA_7, inA_8, inA_9, inA_10, al_0, al_1, al_2, al_4, al_5, al_98, bsP_2, bsP_3, wr_same, wr_wr, wr_ne, up_same, up_ne, Nat.reduceAdd, Int.reduceAdd, Int.reduceSub, Int.reduceMul, Int.reduceLT, Int.reduceLE, Int.reduceEq, Int.reduceNeg, Int.reduceToNat, Nat.reduceLT, Nat.reduceLeDiff, Nat.reduceEqDiff, ↓reduceIte, true_and, and_true, not_true_eq_false, not_false_eq_true, eq_self, or_true, true_or, or_false, false_or, if_true, if_false, Int.toNat_natCast, w_ite, Nat.add_zero, reduceCtorEq, ne_eq]
      exact this
theorem sp_256 {l n x : Int} (h : LB S I L R G c s1 s2) (hf : few s1) (hl : B32 l) (hn : B32 n) (hx : B32 x) (hQ : HK S I G c s2 Q true (rRead s1 l n x)) : XC (d + 73) 256 [.ref c, .int (w l), .int (w n), .int (w x), .ref (c + 6799)] (mk S I L R G) Q := by
  have hc := h.1.1.1
  simp (disch := omega) only [q_256_0, q_256_2, q_256_3, q_256_4, q_256_5, q_256_6, q_256_7, q_256_10, q_256_11, q_256_12, q_256_15, q_256_17, q_256_18, q_256_19, q_256_21, q_256_22, q_256_23, q_256_24, q_256_e, va_rf_s, bz_0, bz_1, bz_ok, bb_ok, Nat.add_assoc, w_lt, w_add, w_sub, w_mul, w_div, em_def, w_eq, w_inT, ↓ilt_t, ↓ilt_f, ↓ieq_t, ↓ieq_f, ntT, w_b, w_ix, kx_v, kx_n, kl_n, kl_i, kl_r, kl_o, inA_i, inA_s, inA_b, inA_z, inA_l, inA_0, inA_4, inA_5, inA_6, inA_7, inA_8, inA_9, inA_10, al_0, al_1, al_2, al_4, al_5, al_98, bsP_2, bsP_3, wr_same, wr_wr, wr_ne, up_same, up_ne, Nat.reduceAdd, Int.reduceAdd, Int.reduceSub, Int.reduceMul, Int.reduceLT, Int.reduceLE, Int.reduceEq, Int.reduceNeg, Int.reduceToNat, Nat.reduceLT, Nat.reduceLeDiff, Nat.reduceEqDiff, ↓reduceIte, true_and, and_true, not_true_eq_false, not_false_eq_true, eq_self, or_true, true_or, or_false, false_or, if_true, if_false, Int.toNat_natCast, w_ite, Nat.add_zero, reduceCtorEq, ne_eq, hc]
  refine sp_126 h.1 hf hl hn hx (fun S' I' L' R' G' hC hF => ?_)
  obtain ⟨h', hL⟩ := h.cls hC hF
  have ho := h'.2.2.1
  cases hr : (rRead s1 l n x).1 with
  | inl v =>
    have := hQ S' I' (wr L' (c + 6799) (up (L' (c + 6799)) 0 (w v).toInt64)) R' G' 0 (h'.out _) hL (by rw [hr]; exact ⟨rfl, by rw [wr_same, up_same]⟩)
    unfold outX
    simp (disch := omega) only [q_256_0, q_256_2, q_256_3, q_256_4, q_256_5, q_256_6, q_256_7, q_256_10, q_256_11, q_256_12, q_256_15, q_256_17, q_256_18, q_256_19, q_256_21, q_256_22, q_256_23, q_256_24, q_256_e, va_rf_s, bz_0, bz_1, bz_ok, bb_ok, Nat.add_assoc, w_lt, w_add, w_sub, w_mul, w_div, em_def, w_eq, w_inT, ↓ilt_t, ↓ilt_f, ↓ieq_t, ↓ieq_f, ntT, w_b, w_ix, kx_v, kx_n, kl_n, kl_i, kl_r, kl_o, inA_i, inA_s, inA_b, inA_z, inA_l, inA_0, inA_4, inA_5, inA_6, inA_7, inA_8, inA_9, inA_10, al_0, al_1, al_2, al_4, al_5, al_98, bsP_2, bsP_3, wr_same, wr_wr, wr_ne, up_same, up_ne, Nat.reduceAdd, Int.reduceAdd, Int.reduceSub, Int.reduceMul, Int.reduceLT, Int.reduceLE, Int.reduceEq, Int.reduceNeg, Int.reduceToNat, Nat.reduceLT, Nat.reduceLeDiff, Nat.reduceEqDiff, ↓reduceIte, true_and, and_true, not_true_eq_false, not_false_eq_true, eq_self, or_true, true_or, or_false, false_or, if_true, if_false, Int.toNat_natCast, w_ite, Nat.add_zero, reduceCtorEq, ne_eq, ho]
    exact this
  | inr E =>
    have hE := rRead_E hr
    have := hQ S' I' L' R' G' (tcode true E) h' hL (by rw [hr])
    unfold outX
    have hE2 : E = 0 ∨ E = 1 := by omega
    rcases hE2 with rfl | rfl
    · rw [kx_h (h := 15) rfl rfl (Nat.le_of_ble_eq_true rfl)]
      show XX (d + 73) 256 17 [some (.ref c), some (.int (w l)), some (.int (w n)), some (.int (w x)), some (.ref (c + 6799)), none] [] (mk S' I' L' R' G') Q
      simp (disch := omega) only [q_256_0, q_256_2, q_256_3, q_256_4, q_256_5, q_256_6, q_256_7, q_256_10, q_256_11, q_256_12, q_256_15, q_256_17, q_256_18, q_256_19, q_256_21, q_256_22, q_256_23, q_256_24, q_256_e, va_rf_s, bz_0, bz_1, bz_ok, bb_ok, Nat.add_assoc, w_lt, w_add, w_sub, w_mul, w_div, em_def, w_eq, w_inT, ↓ilt_t, ↓ilt_f, ↓ieq_t, ↓ieq_f, ntT, w_b, w_ix, kx_v, kx_n, kl_n, kl_i, kl_r, kl_o, inA_i, inA_s, inA_b, inA_z, inA_l, inA_0, inA_4, inA_5, inA_6, inA_7, inA_8, inA_9, inA_10, al_0, al_1, al_2, al_4, al_5, al_98, bsP_2, bsP_3, wr_same, wr_wr, wr_ne, up_same, up_ne, Nat.reduceAdd, Int.reduceAdd, Int.reduceSub, Int.reduceMul, Int.reduceLT, Int.reduceLE, Int.reduceEq, Int.reduceNeg, Int.reduceToNat, Nat.reduceLT, Nat.reduceLeDiff, Nat.reduceEqDiff, ↓reduceIte, true_and, and_true, not_true_eq_false, not_false_eq_true, eq_self, or_true, true_or, or_false, false_or, if_true, if_false, Int.toNat_natCast, w_ite, Nat.add_zero, reduceCtorEq, ne_eq]
      exact this
    · rw [kx_h (h := 19) rfl rfl (Nat.le_of_ble_eq_true rfl)]
      show XX (d + 73) 256 21 [some (.ref c), some (.int (w l)), some (.int (w n)), some (.int (w x)), some (.ref (c + 6799)), none] [] (mk S' I' L' R' G') Q
      simp (disch := omega) only [q_256_0, q_256_2, q_256_3, q_256_4, q_256_5, q_256_6, q_256_7, q_256_10, q_256_11, q_256_12, q_256_15, q_256_17, q_256_18, q_256_19, q_256_21, q_256_22, q_256_23, q_256_24, q_256_e, va_rf_s, bz_0, bz_1, bz_ok, bb_ok, Nat.add_assoc, w_lt, w_add, w_sub, w_mul, w_div, em_def, w_eq, w_inT, ↓ilt_t, ↓ilt_f, ↓ieq_t, ↓ieq_f, ntT, w_b, w_ix, kx_v, kx_n, kl_n, kl_i, kl_r, kl_o, inA_i, inA_s, inA_b, inA_z, inA_l, inA_0, inA_4, inA_5, inA_6, inA_7, inA_8, inA_9, inA_10, al_0, al_1, al_2, al_4, al_5, al_98, bsP_2, bsP_3, wr_same, wr_wr, wr_ne, up_same, up_ne, Nat.reduceAdd, Int.reduceAdd, Int.reduceSub, Int.reduceMul, Int.reduceLT, Int.reduceLE, Int.reduceEq, Int.reduceNeg, Int.reduceToNat, Nat.reduceLT, Nat.reduceLeDiff, Nat.reduceEqDiff, ↓reduceIte, true_and, and_true, not_true_eq_false, not_false_eq_true, eq_self, or_true, true_or, or_false, false_or, if_true, if_false, Int.toNat_natCast, w_ite, Nat.add_zero, reduceCtorEq, ne_eq]
      exact this
theorem sp_257 {l n x : Int} (h : LB S I L R G c s1 s2) (hf : few s1) (hl : B32 l) (hn : B32 n) (hx : B32 x) (hQ : HK S I G c s2 Q true (rWays s1 l n x)) : XC (d + 73) 257 [.ref c, .int (w l), .int (w n), .int (w x), .ref (c + 6799)] (mk S I L R G) Q := by
  have hc := h.1.1.1
  simp (disch := omega) only [q_257_0, q_257_2, q_257_3, q_257_4, q_257_5, q_257_6, q_257_7, q_257_10, q_257_11, q_257_12, q_257_15, q_257_17, q_257_18, q_257_19, q_257_21, q_257_22, q_257_23, q_257_24, q_257_e, va_rf_s, bz_0, bz_1, bz_ok, bb_ok, Nat.add_assoc, w_lt, w_add, w_sub, w_mul, w_div, em_def, w_eq, w_inT, ↓ilt_t, ↓ilt_f, ↓ieq_t, ↓ieq_f, ntT, w_b, w_ix, kx_v, kx_n, kl_n, kl_i, kl_r, kl_o, inA_i, inA_s, inA_b, inA_z, inA_l, inA_0, inA_4, inA_5, inA_6, inA_7, inA_8, inA_9, inA_10, al_0, al_1, al_2, al_4, al_5, al_98, bsP_2, bsP_3, wr_same, wr_wr, wr_ne, up_same, up_ne, Nat.reduceAdd, Int.reduceAdd, Int.reduceSub, Int.reduceMul, Int.reduceLT, Int.reduceLE, Int.reduceEq, Int.reduceNeg, Int.reduceToNat, Nat.reduceLT, Nat.reduceLeDiff, Nat.reduceEqDiff, ↓reduceIte, true_and, and_true, not_true_eq_false, not_false_eq_true, eq_self, or_true, true_or, or_false, false_or, if_true, if_false, Int.toNat_natCast, w_ite, Nat.add_zero, reduceCtorEq, ne_eq, hc]
  refine sp_127 h.1 hf hl hn hx (fun S' I' L' R' G' hC hF => ?_)
  obtain ⟨h', hL⟩ := h.cls hC hF
  have ho := h'.2.2.1
  cases hr : (rWays s1 l n x).1 with
  | inl v =>
    have := hQ S' I' (wr L' (c + 6799) (up (L' (c + 6799)) 0 (w v).toInt64)) R' G' 0 (h'.out _) hL (by rw [hr]; exact ⟨rfl, by rw [wr_same, up_same]⟩)
    unfold outX
    simp (disch := omega) only [q_257_0, q_257_2, q_257_3, q_257_4, q_257_5, q_257_6, q_257_7, q_257_10, q_257_11, q_257_12, q_257_15, q_257_17, q_257_18, q_257_19, q_257_21, q_257_22, q_257_23, q_257_24, q_257_e, va_rf_s, bz_0, bz_1, bz_ok, bb_ok, Nat.add_assoc, w_lt, w_add, w_sub, w_mul, w_div, em_def, w_eq, w_inT, ↓ilt_t, ↓ilt_f, ↓ieq_t, ↓ieq_f, ntT, w_b, w_ix, kx_v, kx_n, kl_n, kl_i, kl_r, kl_o, inA_i, inA_s, inA_b, inA_z, inA_l, inA_0, inA_4, inA_5, inA_6, inA_7, inA_8, inA_9, inA_10, al_0, al_1, al_2, al_4, al_5, al_98, bsP_2, bsP_3, wr_same, wr_wr, wr_ne, up_same, up_ne, Nat.reduceAdd, Int.reduceAdd, Int.reduceSub, Int.reduceMul, Int.reduceLT, Int.reduceLE, Int.reduceEq, Int.reduceNeg, Int.reduceToNat, Nat.reduceLT, Nat.reduceLeDiff, Nat.reduceEqDiff, ↓reduceIte, true_and, and_true, not_true_eq_false, not_false_eq_true, eq_self, or_true, true_or, or_false, false_or, if_true, if_false, Int.toNat_natCast, w_ite, Nat.add_zero, reduceCtorEq, ne_eq, ho]
    exact this
  | inr E =>
    have hE := rWays_E hr
    have := hQ S' I' L' R' G' (tcode true E) h' hL (by rw [hr])
    unfold outX
    have hE2 : E = 0 ∨ E = 1 := by omega
    rcases hE2 with rfl | rfl
    · rw [kx_h (h := 15) rfl rfl (Nat.le_of_ble_eq_true rfl)]
      show XX (d + 73) 257 17 [some (.ref c), some (.int (w l)), some (.int (w n)), some (.int (w x)), some (.ref (c + 6799)), none] [] (mk S' I' L' R' G') Q
      simp (disch := omega) only [q_257_0, q_257_2, q_257_3, q_257_4, q_257_5, q_257_6, q_257_7, q_257_10, q_257_11, q_257_12, q_257_15, q_257_17, q_257_18, q_257_19, q_257_21, q_257_22, q_257_23, q_257_24, q_257_e, va_rf_s, bz_0, bz_1, bz_ok, bb_ok, Nat.add_assoc, w_lt, w_add, w_sub, w_mul, w_div, em_def, w_eq, w_inT, ↓ilt_t, ↓ilt_f, ↓ieq_t, ↓ieq_f, ntT, w_b, w_ix, kx_v, kx_n, kl_n, kl_i, kl_r, kl_o, inA_i, inA_s, inA_b, inA_z, inA_l, inA_0, inA_4, inA_5, inA_6, inA_7, inA_8, inA_9, inA_10, al_0, al_1, al_2, al_4, al_5, al_98, bsP_2, bsP_3, wr_same, wr_wr, wr_ne, up_same, up_ne, Nat.reduceAdd, Int.reduceAdd, Int.reduceSub, Int.reduceMul, Int.reduceLT, Int.reduceLE, Int.reduceEq, Int.reduceNeg, Int.reduceToNat, Nat.reduceLT, Nat.reduceLeDiff, Nat.reduceEqDiff, ↓reduceIte, true_and, and_true, not_true_eq_false, not_false_eq_true, eq_self, or_true, true_or, or_false, false_or, if_true, if_false, Int.toNat_natCast, w_ite, Nat.add_zero, reduceCtorEq, ne_eq]
      exact this
    · rw [kx_h (h := 19) rfl rfl (Nat.le_of_ble_eq_true rfl)]
      show XX (d + 73) 257 21 [some (.ref c), some (.int (w l)), some (.int (w n)), some (.int (w x)), some (.ref (c + 6799)), none] [] (mk S' I' L' R' G') Q
      simp (disch := omega) only [q_257_0, q_257_2, q_257_3, q_257_4, q_257_5, q_257_6, q_257_7, q_257_10, q_257_11, q_257_12, q_257_15, q_257_17, q_257_18, q_257_19, q_257_21, q_257_22, q_257_23, q_257_24, q_257_e, va_rf_s, bz_0, bz_1, bz_ok, bb_ok, Nat.add_assoc, w_lt, w_add, w_sub, w_mul, w_div, em_def, w_eq, w_inT, ↓ilt_t, ↓ilt_f, ↓ieq_t, ↓ieq_f, ntT, w_b, w_ix, kx_v, kx_n, kl_n, kl_i, kl_r, kl_o, inA_i, inA_s, inA_b, inA_z, inA_l, inA_0, inA_4, inA_5, inA_6, inA_7, inA_8, inA_9, inA_10, al_0, al_1, al_2, al_4, al_5, al_98, bsP_2, bsP_3, wr_same, wr_wr, wr_ne, up_same, up_ne, Nat.reduceAdd, Int.reduceAdd, Int.reduceSub, Int.reduceMul, Int.reduceLT, Int.reduceLE, Int.reduceEq, Int.reduceNeg, Int.reduceToNat, Nat.reduceLT, Nat.reduceLeDiff, Nat.reduceEqDiff, ↓reduceIte, true_and, and_true, not_true_eq_false, not_false_eq_true, eq_self, or_true, true_or, or_false, false_or, if_true, if_false, Int.toNat_natCast, w_ite, Nat.add_zero, reduceCtorEq, ne_eq]
      exact this
theorem sp_258 {l n q x : Int} (h : LB S I L R G c s1 s2) (hf : few s1) (hl : B32 l) (hn : B32 n) (hq : B32 q) (hx : B32 x) (hQ : HK S I G c s2 Q true (rWay s1 l n q x)) : XC (d + 73) 258 [.ref c, .int (w l), .int (w n), .int (w q), .int (w x), .ref (c + 6799)] (mk S I L R G) Q := by
  have hc := h.1.1.1
  simp (disch := omega) only [q_258_0, q_258_2, q_258_3, q_258_4, q_258_5, q_258_6, q_258_7, q_258_9, q_258_12, q_258_13, q_258_14, q_258_17, q_258_19, q_258_20, q_258_21, q_258_23, q_258_24, q_258_25, q_258_26, q_258_e, va_rf_s, bz_0, bz_1, bz_ok, bb_ok, Nat.add_assoc, w_lt, w_add, w_sub, w_mul, w_div, em_def, w_eq, w_inT, ↓ilt_t, ↓ilt_f, ↓ieq_t, ↓ieq_f, ntT, w_b, w_ix, kx_v, kx_n, kl_n, kl_i, kl_r, kl_o, inA_i, inA_s, inA_b, inA_z, inA_l, inA_0, inA_4, inA_5, inA_6, inA_7, inA_8, inA_9, inA_10, al_0, al_1, al_2, al_4, al_5, al_98, bsP_2, bsP_3, wr_same, wr_wr, wr_ne, up_same, up_ne, Nat.reduceAdd, Int.reduceAdd, Int.reduceSub, Int.reduceMul, Int.reduceLT, Int.reduceLE, Int.reduceEq, Int.reduceNeg, Int.reduceToNat, Nat.reduceLT, Nat.reduceLeDiff, Nat.reduceEqDiff, ↓reduceIte, true_and, and_true, not_true_eq_false, not_false_eq_true, eq_self, or_true, true_or, or_false, false_or, if_true, if_false, Int.toNat_natCast, w_ite, Nat.add_zero, reduceCtorEq, ne_eq, hc]
  refine sp_128 h.1 hf hl hn hq hx (fun S' I' L' R' G' hC hF => ?_)
  obtain ⟨h', hL⟩ := h.cls hC hF
  have ho := h'.2.2.1
  cases hr : (rWay s1 l n q x).1 with
  | inl v =>
    have := hQ S' I' (wr L' (c + 6799) (up (L' (c + 6799)) 0 (w v).toInt64)) R' G' 0 (h'.out _) hL (by rw [hr]; exact ⟨rfl, by rw [wr_same, up_same]⟩)
    unfold outX
    simp (disch := omega) only [q_258_0, q_258_2, q_258_3, q_258_4, q_258_5, q_258_6, q_258_7, q_258_9, q_258_12, q_258_13, q_258_14, q_258_17, q_258_19, q_258_20, q_258_21, q_258_23, q_258_24, q_258_25, q_258_26, q_258_e, va_rf_s, bz_0, bz_1, bz_ok, bb_ok, Nat.add_assoc, w_lt, w_add, w_sub, w_mul, w_div, em_def, w_eq, w_inT, ↓ilt_t, ↓ilt_f, ↓ieq_t, ↓ieq_f, ntT, w_b, w_ix, kx_v, kx_n, kl_n, kl_i, kl_r, kl_o, inA_i, inA_s, inA_b, inA_z, inA_l, inA_0, inA_4, inA_5, inA_6, inA_7, inA_8, inA_9, inA_10, al_0, al_1, al_2, al_4, al_5, al_98, bsP_2, bsP_3, wr_same, wr_wr, wr_ne, up_same, up_ne, Nat.reduceAdd, Int.reduceAdd, Int.reduceSub, Int.reduceMul, Int.reduceLT, Int.reduceLE, Int.reduceEq, Int.reduceNeg, Int.reduceToNat, Nat.reduceLT, Nat.reduceLeDiff, Nat.reduceEqDiff, ↓reduceIte, true_and, and_true, not_true_eq_false, not_false_eq_true, eq_self, or_true, true_or, or_false, false_or, if_true, if_false, Int.toNat_natCast, w_ite, Nat.add_zero, reduceCtorEq, ne_eq, ho]
    exact this
  | inr E =>
    have hE := rWay_E hr
    have := hQ S' I' L' R' G' (tcode true E) h' hL (by rw [hr])
    unfold outX
    have hE2 : E = 0 ∨ E = 1 := by omega
    rcases hE2 with rfl | rfl
    · rw [kx_h (h := 17) rfl rfl (Nat.le_of_ble_eq_true rfl)]
      show XX (d + 73) 258 19 [some (.ref c), some (.int (w l)), some (.int (w n)), some (.int (w q)), some (.int (w x)), some (.ref (c + 6799)), none] [] (mk S' I' L' R' G') Q
      simp (disch := omega) only [q_258_0, q_258_2, q_258_3, q_258_4, q_258_5, q_258_6, q_258_7, q_258_9, q_258_12, q_258_13, q_258_14, q_258_17, q_258_19, q_258_20, q_258_21, q_258_23, q_258_24, q_258_25, q_258_26, q_258_e, va_rf_s, bz_0, bz_1, bz_ok, bb_ok, Nat.add_assoc, w_lt, w_add, w_sub, w_mul, w_div, em_def, w_eq, w_inT, ↓ilt_t, ↓ilt_f, ↓ieq_t, ↓ieq_f, ntT, w_b, w_ix, kx_v, kx_n, kl_n, kl_i, kl_r, kl_o, inA_i, inA_s, inA_b, inA_z, inA_l, inA_0, inA_4, inA_5, inA_6, inA_7, inA_8, inA_9, inA_10, al_0, al_1, al_2, al_4, al_5, al_98, bsP_2, bsP_3, wr_same, wr_wr, wr_ne, up_same, up_ne, Nat.reduceAdd, Int.reduceAdd, Int.reduceSub, Int.reduceMul, Int.reduceLT, Int.reduceLE, Int.reduceEq, Int.reduceNeg, Int.reduceToNat, Nat.reduceLT, Nat.reduceLeDiff, Nat.reduceEqDiff, ↓reduceIte, true_and, and_true, not_true_eq_false, not_false_eq_true, eq_self, or_true, true_or, or_false, false_or, if_true, if_false, Int.toNat_natCast, w_ite, Nat.add_zero, reduceCtorEq, ne_eq]
      exact this
    · rw [kx_h (h := 21) rfl rfl (Nat.le_of_ble_eq_true rfl)]
      show XX (d + 73) 258 23 [some (.ref c), some (.int (w l)), some (.int (w n)), some (.int (w q)), some (.int (w x)), some (.ref (c + 6799)), none] [] (mk S' I' L' R' G') Q
      simp (disch := omega) only [q_258_0, q_258_2, q_258_3, q_258_4, q_258_5, q_258_6, q_258_7, q_258_9, q_258_12, q_258_13, q_258_14, q_258_17, q_258_19, q_258_20, q_258_21, q_258_23, q_258_24, q_258_25, q_258_26, q_258_e, va_rf_s, bz_0, bz_1, bz_ok, bb_ok, Nat.add_assoc, w_lt, w_add, w_sub, w_mul, w_div, em_def, w_eq, w_inT, ↓ilt_t, ↓ilt_f, ↓ieq_t, ↓ieq_f, ntT, w_b, w_ix, kx_v, kx_n, kl_n, kl_i, kl_r, kl_o, inA_i, inA_s, inA_b, inA_z, inA_l, inA_0, inA_4, inA_5, inA_6, inA_7, inA_8, inA_9, inA_10, al_0, al_1, al_2, al_4, al_5, al_98, bsP_2, bsP_3, wr_same, wr_wr, wr_ne, up_same, up_ne, Nat.reduceAdd, Int.reduceAdd, Int.reduceSub, Int.reduceMul, Int.reduceLT, Int.reduceLE, Int.reduceEq, Int.reduceNeg, Int.reduceToNat, Nat.reduceLT, Nat.reduceLeDiff, Nat.reduceEqDiff, ↓reduceIte, true_and, and_true, not_true_eq_false, not_false_eq_true, eq_self, or_true, true_or, or_false, false_or, if_true, if_false, Int.toNat_natCast, w_ite, Nat.add_zero, reduceCtorEq, ne_eq]
      exact this
theorem sp_259 {l n : Int} (h : LB S I L R G c s1 s2) (hf : few s1) (hl : B32 l) (hn : B32 n) (hQ : HK S I G c s2 Q true (rStr s1 l n)) : XC (d + 73) 259 [.ref c, .int (w l), .int (w n), .ref (c + 6799)] (mk S I L R G) Q := by
  have hc := h.1.1.1
  simp (disch := omega) only [q_259_0, q_259_1, q_259_2, q_259_3, q_259_4, q_259_5, q_259_8, q_259_9, q_259_10, q_259_13, q_259_15, q_259_16, q_259_17, q_259_19, q_259_20, q_259_21, q_259_22, q_259_e, va_rf_s, bz_0, bz_1, bz_ok, bb_ok, Nat.add_assoc, w_lt, w_add, w_sub, w_mul, w_div, em_def, w_eq, w_inT, ↓ilt_t, ↓ilt_f, ↓ieq_t, ↓ieq_f, ntT, w_b, w_ix, kx_v, kx_n, kl_n, kl_i, kl_r, kl_o, inA_i, inA_s, inA_b, inA_z, inA_l, inA_0, inA_4, inA_5, inA_6, inA_7, inA_8, inA_9, inA_10, al_0, al_1, al_2, al_4, al_5, al_98, bsP_2, bsP_3, wr_same, wr_wr, wr_ne, up_same, up_ne, Nat.reduceAdd, Int.reduceAdd, Int.reduceSub, Int.reduceMul, Int.reduceLT, Int.reduceLE, Int.reduceEq, Int.reduceNeg, Int.reduceToNat, Nat.reduceLT, Nat.reduceLeDiff, Nat.reduceEqDiff, ↓reduceIte, true_and, and_true, not_true_eq_false, not_false_eq_true, eq_self, or_true, true_or, or_false, false_or, if_true, if_false, Int.toNat_natCast, w_ite, Nat.add_zero, reduceCtorEq, ne_eq, hc]
  refine sp_129 h.1 hf hl hn (fun S' I' L' R' G' hC hF => ?_)
  obtain ⟨h', hL⟩ := h.cls hC hF
  have ho := h'.2.2.1
  cases hr : (rStr s1 l n).1 with
  | inl v =>
    have := hQ S' I' (wr L' (c + 6799) (up (L' (c + 6799)) 0 (w v).toInt64)) R' G' 0 (h'.out _) hL (by rw [hr]; exact ⟨rfl, by rw [wr_same, up_same]⟩)
    unfold outX
    simp (disch := omega) only [q_259_0, q_259_1, q_259_2, q_259_3, q_259_4, q_259_5, q_259_8, q_259_9, q_259_10, q_259_13, q_259_15, q_259_16, q_259_17, q_259_19, q_259_20, q_259_21, q_259_22, q_259_e, va_rf_s, bz_0, bz_1, bz_ok, bb_ok, Nat.add_assoc, w_lt, w_add, w_sub, w_mul, w_div, em_def, w_eq, w_inT, ↓ilt_t, ↓ilt_f, ↓ieq_t, ↓ieq_f, ntT, w_b, w_ix, kx_v, kx_n, kl_n, kl_i, kl_r, kl_o, inA_i, inA_s, inA_b, inA_z, inA_l, inA_0, inA_4, inA_5, inA_6, inA_7, inA_8, inA_9, inA_10, al_0, al_1, al_2, al_4, al_5, al_98, bsP_2, bsP_3, wr_same, wr_wr, wr_ne, up_same, up_ne, Nat.reduceAdd, Int.reduceAdd, Int.reduceSub, Int.reduceMul, Int.reduceLT, Int.reduceLE, Int.reduceEq, Int.reduceNeg, Int.reduceToNat, Nat.reduceLT, Nat.reduceLeDiff, Nat.reduceEqDiff, ↓reduceIte, true_and, and_true, not_true_eq_false, not_false_eq_true, eq_self, or_true, true_or, or_false, false_or, if_true, if_false, Int.toNat_natCast, w_ite, Nat.add_zero, reduceCtorEq, ne_eq, ho]
    exact this
  | inr E =>
    have hE := rStr_E hr
    have := hQ S' I' L' R' G' (tcode true E) h' hL (by rw [hr])
    unfold outX
    have hE2 : E = 0 ∨ E = 1 := by omega
    rcases hE2 with rfl | rfl
    · rw [kx_h (h := 13) rfl rfl (Nat.le_of_ble_eq_true rfl)]
      show XX (d + 73) 259 15 [some (.ref c), some (.int (w l)), some (.int (w n)), some (.ref (c + 6799)), none] [] (mk S' I' L' R' G') Q
      simp (disch := omega) only [q_259_0, q_259_1, q_259_2, q_259_3, q_259_4, q_259_5, q_259_8, q_259_9, q_259_10, q_259_13, q_259_15, q_259_16, q_259_17, q_259_19, q_259_20, q_259_21, q_259_22, q_259_e, va_rf_s, bz_0, bz_1, bz_ok, bb_ok, Nat.add_assoc, w_lt, w_add, w_sub, w_mul, w_div, em_def, w_eq, w_inT, ↓ilt_t, ↓ilt_f, ↓ieq_t, ↓ieq_f, ntT, w_b, w_ix, kx_v, kx_n, kl_n, kl_i, kl_r, kl_o, inA_i, inA_s, inA_b, inA_z, inA_l, inA_0, inA_4, inA_5, inA_6, inA_7, inA_8, inA_9, inA_10, al_0, al_1, al_2, al_4, al_5, al_98, bsP_2, bsP_3, wr_same, wr_wr, wr_ne, up_same, up_ne, Nat.reduceAdd, Int.reduceAdd, Int.reduceSub, Int.reduceMul, Int.reduceLT, Int.reduceLE, Int.reduceEq, Int.reduceNeg, Int.reduceToNat, Nat.reduceLT, Nat.reduceLeDiff, Nat.reduceEqDiff, ↓reduceIte, true_and, and_true, not_true_eq_false, not_false_eq_true, eq_self, or_true, true_or, or_false, false_or, if_true, if_false, Int.toNat_natCast, w_ite, Nat.add_zero, reduceCtorEq, ne_eq]
      exact this
    · rw [kx_h (h := 17) rfl rfl (Nat.le_of_ble_eq_true rfl)]
      show XX (d + 73) 259 19 [some (.ref c), some (.int (w l)), some (.int (w n)), some (.ref (c + 6799)), none] [] (mk S' I' L' R' G') Q
      simp (disch := omega) only [q_259_0, q_259_1, q_259_2, q_259_3, q_259_4, q_259_5, q_259_8, q_259_9, q_259_10, q_259_13, q_259_15, q_259_16, q_259_17, q_259_19, q_259_20, q_259_21, q_259_22, q_259_e, va_rf_s, bz_0, bz_1, bz_ok, bb_ok, Nat.add_assoc, w_lt, w_add, w_sub, w_mul, w_div, em_def, w_eq, w_inT, ↓ilt_t, ↓ilt_f, ↓ieq_t, ↓ieq_f, ntT, w_b, w_ix, kx_v, kx_n, kl_n, kl_i, kl_r, kl_o, inA_i, inA_s, inA_b, inA_z, inA_l, inA_0, inA_4, inA_5, inA_6, inA_7, inA_8, inA_9, inA_10, al_0, al_1, al_2, al_4, al_5, al_98, bsP_2, bsP_3, wr_same, wr_wr, wr_ne, up_same, up_ne, Nat.reduceAdd, Int.reduceAdd, Int.reduceSub, Int.reduceMul, Int.reduceLT, Int.reduceLE, Int.reduceEq, Int.reduceNeg, Int.reduceToNat, Nat.reduceLT, Nat.reduceLeDiff, Nat.reduceEqDiff, ↓reduceIte, true_and, and_true, not_true_eq_false, not_false_eq_true, eq_self, or_true, true_or, or_false, false_or, if_true, if_false, Int.toNat_natCast, w_ite, Nat.add_zero, reduceCtorEq, ne_eq]
      exact this
theorem sp_260 {l n : Int} (h : LB S I L R G c s1 s2) (hf : few s1) (hl : B32 l) (hn : B32 n) (hQ : HK S I G c s2 Q false (rHeard s1 l n)) : XC (d + 73) 260 [.ref c, .int (w l), .int (w n), .ref (c + 6799)] (mk S I L R G) Q := by
  have hc := h.1.1.1
  simp (disch := omega) only [q_260_0, q_260_1, q_260_2, q_260_3, q_260_4, q_260_5, q_260_8, q_260_9, q_260_10, q_260_13, q_260_15, q_260_16, q_260_17, q_260_18, q_260_e, va_rf_s, bz_0, bz_1, bz_ok, bb_ok, Nat.add_assoc, w_lt, w_add, w_sub, w_mul, w_div, em_def, w_eq, w_inT, ↓ilt_t, ↓ilt_f, ↓ieq_t, ↓ieq_f, ntT, w_b, w_ix, kx_v, kx_n, kl_n, kl_i, kl_r, kl_o, inA_i, inA_s, inA_b, inA_z, inA_l, inA_0, inA_4, inA_5, inA_6, inA_7, inA_8, inA_9, inA_10, al_0, al_1, al_2, al_4, al_5, al_98, bsP_2, bsP_3, wr_same, wr_wr, wr_ne, up_same, up_ne, Nat.reduceAdd, Int.reduceAdd, Int.reduceSub, Int.reduceMul, Int.reduceLT, Int.reduceLE, Int.reduceEq, Int.reduceNeg, Int.reduceToNat, Nat.reduceLT, Nat.reduceLeDiff, Nat.reduceEqDiff, ↓reduceIte, true_and, and_true, not_true_eq_false, not_false_eq_true, eq_self, or_true, true_or, or_false, false_or, if_true, if_false, Int.toNat_natCast, w_ite, Nat.add_zero, reduceCtorEq, ne_eq, hc]
  refine sp_130 h.1 hf hl hn (fun S' I' L' R' G' hC hF => ?_)
  obtain ⟨h', hL⟩ := h.cls hC hF
  have ho := h'.2.2.1
  cases hr : (rHeard s1 l n).1 with
  | inl v =>
    have := hQ S' I' (wr L' (c + 6799) (up (L' (c + 6799)) 0 (w v).toInt64)) R' G' 0 (h'.out _) hL (by rw [hr]; exact ⟨rfl, by rw [wr_same, up_same]⟩)
    unfold outX
    simp (disch := omega) only [q_260_0, q_260_1, q_260_2, q_260_3, q_260_4, q_260_5, q_260_8, q_260_9, q_260_10, q_260_13, q_260_15, q_260_16, q_260_17, q_260_18, q_260_e, va_rf_s, bz_0, bz_1, bz_ok, bb_ok, Nat.add_assoc, w_lt, w_add, w_sub, w_mul, w_div, em_def, w_eq, w_inT, ↓ilt_t, ↓ilt_f, ↓ieq_t, ↓ieq_f, ntT, w_b, w_ix, kx_v, kx_n, kl_n, kl_i, kl_r, kl_o, inA_i, inA_s, inA_b, inA_z, inA_l, inA_0, inA_4, inA_5, inA_6, inA_7, inA_8, inA_9, inA_10, al_0, al_1, al_2, al_4, al_5, al_98, bsP_2, bsP_3, wr_same, wr_wr, wr_ne, up_same, up_ne, Nat.reduceAdd, Int.reduceAdd, Int.reduceSub, Int.reduceMul, Int.reduceLT, Int.reduceLE, Int.reduceEq, Int.reduceNeg, Int.reduceToNat, Nat.reduceLT, Nat.reduceLeDiff, Nat.reduceEqDiff, ↓reduceIte, true_and, and_true, not_true_eq_false, not_false_eq_true, eq_self, or_true, true_or, or_false, false_or, if_true, if_false, Int.toNat_natCast, w_ite, Nat.add_zero, reduceCtorEq, ne_eq, ho]
    exact this
  | inr E =>
    have hE := rHeard_E hr
    have := hQ S' I' L' R' G' (tcode false E) h' hL (by rw [hr])
    unfold outX
    subst hE
    rw [kx_h (h := 13) rfl rfl (Nat.le_of_ble_eq_true rfl)]
    show XX (d + 73) 260 15 [some (.ref c), some (.int (w l)), some (.int (w n)), some (.ref (c + 6799)), none] [] (mk S' I' L' R' G') Q
    simp (disch := omega) only [q_260_0, q_260_1, q_260_2, q_260_3, q_260_4, q_260_5, q_260_8, q_260_9, q_260_10, q_260_13, q_260_15, q_260_16, q_260_17, q_260_18, q_260_e, va_rf_s, bz_0, bz_1, bz_ok, bb_ok, Nat.add_assoc, w_lt, w_add, w_sub, w_mul, w_div, em_def, w_eq, w_inT, ↓ilt_t, ↓ilt_f, ↓ieq_t, ↓ieq_f, ntT, w_b, w_ix, kx_v, kx_n, kl_n, kl_i, kl_r, kl_o, inA_i, inA_s, inA_b, inA_z, inA_l, inA_0, inA_4, inA_5, inA_6, inA_7, inA_8, inA_9, inA_10, al_0, al_1, al_2, al_4, al_5, al_98, bsP_2, bsP_3, wr_same, wr_wr, wr_ne, up_same, up_ne, Nat.reduceAdd, Int.reduceAdd, Int.reduceSub, Int.reduceMul, Int.reduceLT, Int.reduceLE, Int.reduceEq, Int.reduceNeg, Int.reduceToNat, Nat.reduceLT, Nat.reduceLeDiff, Nat.reduceEqDiff, ↓reduceIte, true_and, and_true, not_true_eq_false, not_false_eq_true, eq_self, or_true, true_or, or_false, false_or, if_true, if_false, Int.toNat_natCast, w_ite, Nat.add_zero, reduceCtorEq, ne_eq]
    exact this
theorem sp_261 {l x : Int} (h : LB S I L R G c s1 s2) (hf : few s1) (hl : B32 l) (hx : B32 x) (hQ : HK S I G c s2 Q false (rLg s1 l (fun rs => vOrder rs s1.2.1.1 x))) : XC (d + 73) 261 [.ref c, .int (w l), .int (w x), .ref (c + 6799)] (mk S I L R G) Q := by
  have hc := h.1.1.1
  simp (disch := omega) only [q_261_0, q_261_1, q_261_2, q_261_3, q_261_4, q_261_5, q_261_8, q_261_9, q_261_10, q_261_13, q_261_15, q_261_16, q_261_17, q_261_18, q_261_e, va_rf_s, bz_0, bz_1, bz_ok, bb_ok, Nat.add_assoc, w_lt, w_add, w_sub, w_mul, w_div, em_def, w_eq, w_inT, ↓ilt_t, ↓ilt_f, ↓ieq_t, ↓ieq_f, ntT, w_b, w_ix, kx_v, kx_n, kl_n, kl_i, kl_r, kl_o, inA_i, inA_s, inA_b, inA_z, inA_l, inA_0, inA_4, inA_5, inA_6, inA_7, inA_8, inA_9, inA_10, al_0, al_1, al_2, al_4, al_5, al_98, bsP_2, bsP_3, wr_same, wr_wr, wr_ne, up_same, up_ne, Nat.reduceAdd, Int.reduceAdd, Int.reduceSub, Int.reduceMul, Int.reduceLT, Int.reduceLE, Int.reduceEq, Int.reduceNeg, Int.reduceToNat, Nat.reduceLT, Nat.reduceLeDiff, Nat.reduceEqDiff, ↓reduceIte, true_and, and_true, not_true_eq_false, not_false_eq_true, eq_self, or_true, true_or, or_false, false_or, if_true, if_false, Int.toNat_natCast, w_ite, Nat.add_zero, reduceCtorEq, ne_eq, hc]
  refine sp_132 h.1 hf hl hx (fun S' I' L' R' G' hC hF => ?_)
  obtain ⟨h', hL⟩ := h.cls hC hF
  have ho := h'.2.2.1
  cases hr : (rLg s1 l (fun rs => vOrder rs s1.2.1.1 x)).1 with
  | inl v =>
    have := hQ S' I' (wr L' (c + 6799) (up (L' (c + 6799)) 0 (w v).toInt64)) R' G' 0 (h'.out _) hL (by rw [hr]; exact ⟨rfl, by rw [wr_same, up_same]⟩)
    unfold outX
    simp (disch := omega) only [q_261_0, q_261_1, q_261_2, q_261_3, q_261_4, q_261_5, q_261_8, q_261_9, q_261_10, q_261_13, q_261_15, q_261_16, q_261_17, q_261_18, q_261_e, va_rf_s, bz_0, bz_1, bz_ok, bb_ok, Nat.add_assoc, w_lt, w_add, w_sub, w_mul, w_div, em_def, w_eq, w_inT, ↓ilt_t, ↓ilt_f, ↓ieq_t, ↓ieq_f, ntT, w_b, w_ix, kx_v, kx_n, kl_n, kl_i, kl_r, kl_o, inA_i, inA_s, inA_b, inA_z, inA_l, inA_0, inA_4, inA_5, inA_6, inA_7, inA_8, inA_9, inA_10, al_0, al_1, al_2, al_4, al_5, al_98, bsP_2, bsP_3, wr_same, wr_wr, wr_ne, up_same, up_ne, Nat.reduceAdd, Int.reduceAdd, Int.reduceSub, Int.reduceMul, Int.reduceLT, Int.reduceLE, Int.reduceEq, Int.reduceNeg, Int.reduceToNat, Nat.reduceLT, Nat.reduceLeDiff, Nat.reduceEqDiff, ↓reduceIte, true_and, and_true, not_true_eq_false, not_false_eq_true, eq_self, or_true, true_or, or_false, false_or, if_true, if_false, Int.toNat_natCast, w_ite, Nat.add_zero, reduceCtorEq, ne_eq, ho]
    exact this
  | inr E =>
    have hE := rLg_E hr
    have := hQ S' I' L' R' G' (tcode false E) h' hL (by rw [hr])
    unfold outX
    subst hE
    rw [kx_h (h := 13) rfl rfl (Nat.le_of_ble_eq_true rfl)]
    show XX (d + 73) 261 15 [some (.ref c), some (.int (w l)), some (.int (w x)), some (.ref (c + 6799)), none] [] (mk S' I' L' R' G') Q
    simp (disch := omega) only [q_261_0, q_261_1, q_261_2, q_261_3, q_261_4, q_261_5, q_261_8, q_261_9, q_261_10, q_261_13, q_261_15, q_261_16, q_261_17, q_261_18, q_261_e, va_rf_s, bz_0, bz_1, bz_ok, bb_ok, Nat.add_assoc, w_lt, w_add, w_sub, w_mul, w_div, em_def, w_eq, w_inT, ↓ilt_t, ↓ilt_f, ↓ieq_t, ↓ieq_f, ntT, w_b, w_ix, kx_v, kx_n, kl_n, kl_i, kl_r, kl_o, inA_i, inA_s, inA_b, inA_z, inA_l, inA_0, inA_4, inA_5, inA_6, inA_7, inA_8, inA_9, inA_10, al_0, al_1, al_2, al_4, al_5, al_98, bsP_2, bsP_3, wr_same, wr_wr, wr_ne, up_same, up_ne, Nat.reduceAdd, Int.reduceAdd, Int.reduceSub, Int.reduceMul, Int.reduceLT, Int.reduceLE, Int.reduceEq, Int.reduceNeg, Int.reduceToNat, Nat.reduceLT, Nat.reduceLeDiff, Nat.reduceEqDiff, ↓reduceIte, true_and, and_true, not_true_eq_false, not_false_eq_true, eq_self, or_true, true_or, or_false, false_or, if_true, if_false, Int.toNat_natCast, w_ite, Nat.add_zero, reduceCtorEq, ne_eq]
    exact this
theorem sp_262 {l x : Int} (h : LB S I L R G c s1 s2) (hf : few s1) (hl : B32 l) (hx : B32 x) (hQ : HK S I G c s2 Q true (rLx s1 l x 1 (fun rs => vLong rs s1.2.1.1 x))) : XC (d + 73) 262 [.ref c, .int (w l), .int (w x), .ref (c + 6799)] (mk S I L R G) Q := by
  have hc := h.1.1.1
  simp (disch := omega) only [q_262_0, q_262_1, q_262_2, q_262_3, q_262_4, q_262_5, q_262_8, q_262_9, q_262_10, q_262_13, q_262_15, q_262_16, q_262_17, q_262_19, q_262_20, q_262_21, q_262_22, q_262_e, va_rf_s, bz_0, bz_1, bz_ok, bb_ok, Nat.add_assoc, w_lt, w_add, w_sub, w_mul, w_div, em_def, w_eq, w_inT, ↓ilt_t, ↓ilt_f, ↓ieq_t, ↓ieq_f, ntT, w_b, w_ix, kx_v, kx_n, kl_n, kl_i, kl_r, kl_o, inA_i, inA_s, inA_b, inA_z, inA_l, inA_0, inA_4, inA_5, inA_6, inA_7, inA_8, inA_9, inA_10, al_0, al_1, al_2, al_4, al_5, al_98, bsP_2, bsP_3, wr_same, wr_wr, wr_ne, up_same, up_ne, Nat.reduceAdd, Int.reduceAdd, Int.reduceSub, Int.reduceMul, Int.reduceLT, Int.reduceLE, Int.reduceEq, Int.reduceNeg, Int.reduceToNat, Nat.reduceLT, Nat.reduceLeDiff, Nat.reduceEqDiff, ↓reduceIte, true_and, and_true, not_true_eq_false, not_false_eq_true, eq_self, or_true, true_or, or_false, false_or, if_true, if_false, Int.toNat_natCast, w_ite, Nat.add_zero, reduceCtorEq, ne_eq, hc]
  refine sp_133 h.1 hf hl hx (fun S' I' L' R' G' hC hF => ?_)
  obtain ⟨h', hL⟩ := h.cls hC hF
  have ho := h'.2.2.1
  cases hr : (rLx s1 l x 1 (fun rs => vLong rs s1.2.1.1 x)).1 with
  | inl v =>
    have := hQ S' I' (wr L' (c + 6799) (up (L' (c + 6799)) 0 (w v).toInt64)) R' G' 0 (h'.out _) hL (by rw [hr]; exact ⟨rfl, by rw [wr_same, up_same]⟩)
    unfold outX
    simp (disch := omega) only [q_262_0, q_262_1, q_262_2, q_262_3, q_262_4, q_262_5, q_262_8, q_262_9, q_262_10, q_262_13, q_262_15, q_262_16, q_262_17, q_262_19, q_262_20, q_262_21, q_262_22, q_262_e, va_rf_s, bz_0, bz_1, bz_ok, bb_ok, Nat.add_assoc, w_lt, w_add, w_sub, w_mul, w_div, em_def, w_eq, w_inT, ↓ilt_t, ↓ilt_f, ↓ieq_t, ↓ieq_f, ntT, w_b, w_ix, kx_v, kx_n, kl_n, kl_i, kl_r, kl_o, inA_i, inA_s, inA_b, inA_z, inA_l, inA_0, inA_4, inA_5, inA_6, inA_7, inA_8, inA_9, inA_10, al_0, al_1, al_2, al_4, al_5, al_98, bsP_2, bsP_3, wr_same, wr_wr, wr_ne, up_same, up_ne, Nat.reduceAdd, Int.reduceAdd, Int.reduceSub, Int.reduceMul, Int.reduceLT, Int.reduceLE, Int.reduceEq, Int.reduceNeg, Int.reduceToNat, Nat.reduceLT, Nat.reduceLeDiff, Nat.reduceEqDiff, ↓reduceIte, true_and, and_true, not_true_eq_false, not_false_eq_true, eq_self, or_true, true_or, or_false, false_or, if_true, if_false, Int.toNat_natCast, w_ite, Nat.add_zero, reduceCtorEq, ne_eq, ho]
    exact this
  | inr E =>
    have hE := rLx_E hr
    have := hQ S' I' L' R' G' (tcode true E) h' hL (by rw [hr])
    unfold outX
    have hE2 : E = 0 ∨ E = 1 := by omega
    rcases hE2 with rfl | rfl
    · rw [kx_h (h := 13) rfl rfl (Nat.le_of_ble_eq_true rfl)]
      show XX (d + 73) 262 15 [some (.ref c), some (.int (w l)), some (.int (w x)), some (.ref (c + 6799)), none] [] (mk S' I' L' R' G') Q
      simp (disch := omega) only [q_262_0, q_262_1, q_262_2, q_262_3, q_262_4, q_262_5, q_262_8, q_262_9, q_262_10, q_262_13, q_262_15, q_262_16, q_262_17, q_262_19, q_262_20, q_262_21, q_262_22, q_262_e, va_rf_s, bz_0, bz_1, bz_ok, bb_ok, Nat.add_assoc, w_lt, w_add, w_sub, w_mul, w_div, em_def, w_eq, w_inT, ↓ilt_t, ↓ilt_f, ↓ieq_t, ↓ieq_f, ntT, w_b, w_ix, kx_v, kx_n, kl_n, kl_i, kl_r, kl_o, inA_i, inA_s, inA_b, inA_z, inA_l, inA_0, inA_4, inA_5, inA_6, inA_7, inA_8, inA_9, inA_10, al_0, al_1, al_2, al_4, al_5, al_98, bsP_2, bsP_3, wr_same, wr_wr, wr_ne, up_same, up_ne, Nat.reduceAdd, Int.reduceAdd, Int.reduceSub, Int.reduceMul, Int.reduceLT, Int.reduceLE, Int.reduceEq, Int.reduceNeg, Int.reduceToNat, Nat.reduceLT, Nat.reduceLeDiff, Nat.reduceEqDiff, ↓reduceIte, true_and, and_true, not_true_eq_false, not_false_eq_true, eq_self, or_true, true_or, or_false, false_or, if_true, if_false, Int.toNat_natCast, w_ite, Nat.add_zero, reduceCtorEq, ne_eq]
      exact this
    · rw [kx_h (h := 17) rfl rfl (Nat.le_of_ble_eq_true rfl)]
      show XX (d + 73) 262 19 [some (.ref c), some (.int (w l)), some (.int (w x)), some (.ref (c + 6799)), none] [] (mk S' I' L' R' G') Q
      simp (disch := omega) only [q_262_0, q_262_1, q_262_2, q_262_3, q_262_4, q_262_5, q_262_8, q_262_9, q_262_10, q_262_13, q_262_15, q_262_16, q_262_17, q_262_19, q_262_20, q_262_21, q_262_22, q_262_e, va_rf_s, bz_0, bz_1, bz_ok, bb_ok, Nat.add_assoc, w_lt, w_add, w_sub, w_mul, w_div, em_def, w_eq, w_inT, ↓ilt_t, ↓ilt_f, ↓ieq_t, ↓ieq_f, ntT, w_b, w_ix, kx_v, kx_n, kl_n, kl_i, kl_r, kl_o, inA_i, inA_s, inA_b, inA_z, inA_l, inA_0, inA_4, inA_5, inA_6, inA_7, inA_8, inA_9, inA_10, al_0, al_1, al_2, al_4, al_5, al_98, bsP_2, bsP_3, wr_same, wr_wr, wr_ne, up_same, up_ne, Nat.reduceAdd, Int.reduceAdd, Int.reduceSub, Int.reduceMul, Int.reduceLT, Int.reduceLE, Int.reduceEq, Int.reduceNeg, Int.reduceToNat, Nat.reduceLT, Nat.reduceLeDiff, Nat.reduceEqDiff, ↓reduceIte, true_and, and_true, not_true_eq_false, not_false_eq_true, eq_self, or_true, true_or, or_false, false_or, if_true, if_false, Int.toNat_natCast, w_ite, Nat.add_zero, reduceCtorEq, ne_eq]
      exact this
theorem sp_263 {l n x : Int} (h : LB S I L R G c s1 s2) (hf : few s1) (hl : B32 l) (hn : B32 n) (hx : B32 x) (hQ : HK S I G c s2 Q true (rLx s1 l x 2 (fun rs => vChain rs n x))) : XC (d + 73) 263 [.ref c, .int (w l), .int (w n), .int (w x), .ref (c + 6799)] (mk S I L R G) Q := by
  have hc := h.1.1.1
  simp (disch := omega) only [q_263_0, q_263_2, q_263_3, q_263_4, q_263_5, q_263_6, q_263_7, q_263_10, q_263_11, q_263_12, q_263_15, q_263_17, q_263_18, q_263_19, q_263_21, q_263_22, q_263_23, q_263_24, q_263_e, va_rf_s, bz_0, bz_1, bz_ok, bb_ok, Nat.add_assoc, w_lt, w_add, w_sub, w_mul, w_div, em_def, w_eq, w_inT, ↓ilt_t, ↓ilt_f, ↓ieq_t, ↓ieq_f, ntT, w_b, w_ix, kx_v, kx_n, kl_n, kl_i, kl_r, kl_o, inA_i, inA_s, inA_b, inA_z, inA_l, inA_0, inA_4, inA_5, inA_6, inA_7, inA_8, inA_9, inA_10, al_0, al_1, al_2, al_4, al_5, al_98, bsP_2, bsP_3, wr_same, wr_wr, wr_ne, up_same, up_ne, Nat.reduceAdd, Int.reduceAdd, Int.reduceSub, Int.reduceMul, Int.reduceLT, Int.reduceLE, Int.reduceEq, Int.reduceNeg, Int.reduceToNat, Nat.reduceLT, Nat.reduceLeDiff, Nat.reduceEqDiff, ↓reduceIte, true_and, and_true, not_true_eq_false, not_false_eq_true, eq_self, or_true, true_or, or_false, false_or, if_true, if_false, Int.toNat_natCast, w_ite, Nat.add_zero, reduceCtorEq, ne_eq, hc]
  refine sp_134 h.1 hf hl hn hx (fun S' I' L' R' G' hC hF => ?_)
  obtain ⟨h', hL⟩ := h.cls hC hF
  have ho := h'.2.2.1
  cases hr : (rLx s1 l x 2 (fun rs => vChain rs n x)).1 with
  | inl v =>
    have := hQ S' I' (wr L' (c + 6799) (up (L' (c + 6799)) 0 (w v).toInt64)) R' G' 0 (h'.out _) hL (by rw [hr]; exact ⟨rfl, by rw [wr_same, up_same]⟩)
    unfold outX
    simp (disch := omega) only [q_263_0, q_263_2, q_263_3, q_263_4, q_263_5, q_263_6, q_263_7, q_263_10, q_263_11, q_263_12, q_263_15, q_263_17, q_263_18, q_263_19, q_263_21, q_263_22, q_263_23, q_263_24, q_263_e, va_rf_s, bz_0, bz_1, bz_ok, bb_ok, Nat.add_assoc, w_lt, w_add, w_sub, w_mul, w_div, em_def, w_eq, w_inT, ↓ilt_t, ↓ilt_f, ↓ieq_t, ↓ieq_f, ntT, w_b, w_ix, kx_v, kx_n, kl_n, kl_i, kl_r, kl_o, inA_i, inA_s, inA_b, inA_z, inA_l, inA_0, inA_4, inA_5, inA_6, inA_7, inA_8, inA_9, inA_10, al_0, al_1, al_2, al_4, al_5, al_98, bsP_2, bsP_3, wr_same, wr_wr, wr_ne, up_same, up_ne, Nat.reduceAdd, Int.reduceAdd, Int.reduceSub, Int.reduceMul, Int.reduceLT, Int.reduceLE, Int.reduceEq, Int.reduceNeg, Int.reduceToNat, Nat.reduceLT, Nat.reduceLeDiff, Nat.reduceEqDiff, ↓reduceIte, true_and, and_true, not_true_eq_false, not_false_eq_true, eq_self, or_true, true_or, or_false, false_or, if_true, if_false, Int.toNat_natCast, w_ite, Nat.add_zero, reduceCtorEq, ne_eq, ho]
    exact this
  | inr E =>
    have hE := rLx_E hr
    have := hQ S' I' L' R' G' (tcode true E) h' hL (by rw [hr])
    unfold outX
    have hE2 : E = 0 ∨ E = 1 := by omega
    rcases hE2 with rfl | rfl
    · rw [kx_h (h := 15) rfl rfl (Nat.le_of_ble_eq_true rfl)]
      show XX (d + 73) 263 17 [some (.ref c), some (.int (w l)), some (.int (w n)), some (.int (w x)), some (.ref (c + 6799)), none] [] (mk S' I' L' R' G') Q
      simp (disch := omega) only [q_263_0, q_263_2, q_263_3, q_263_4, q_263_5, q_263_6, q_263_7, q_263_10, q_263_11, q_263_12, q_263_15, q_263_17, q_263_18, q_263_19, q_263_21, q_263_22, q_263_23, q_263_24, q_263_e, va_rf_s, bz_0, bz_1, bz_ok, bb_ok, Nat.add_assoc, w_lt, w_add, w_sub, w_mul, w_div, em_def, w_eq, w_inT, ↓ilt_t, ↓ilt_f, ↓ieq_t, ↓ieq_f, ntT, w_b, w_ix, kx_v, kx_n, kl_n, kl_i, kl_r, kl_o, inA_i, inA_s, inA_b, inA_z, inA_l, inA_0, inA_4, inA_5, inA_6, inA_7, inA_8, inA_9, inA_10, al_0, al_1, al_2, al_4, al_5, al_98, bsP_2, bsP_3, wr_same, wr_wr, wr_ne, up_same, up_ne, Nat.reduceAdd, Int.reduceAdd, Int.reduceSub, Int.reduceMul, Int.reduceLT, Int.reduceLE, Int.reduceEq, Int.reduceNeg, Int.reduceToNat, Nat.reduceLT, Nat.reduceLeDiff, Nat.reduceEqDiff, ↓reduceIte, true_and, and_true, not_true_eq_false, not_false_eq_true, eq_self, or_true, true_or, or_false, false_or, if_true, if_false, Int.toNat_natCast, w_ite, Nat.add_zero, reduceCtorEq, ne_eq]
      exact this
    · rw [kx_h (h := 19) rfl rfl (Nat.le_of_ble_eq_true rfl)]
      show XX (d + 73) 263 21 [some (.ref c), some (.int (w l)), some (.int (w n)), some (.int (w x)), some (.ref (c + 6799)), none] [] (mk S' I' L' R' G') Q
      simp (disch := omega) only [q_263_0, q_263_2, q_263_3, q_263_4, q_263_5, q_263_6, q_263_7, q_263_10, q_263_11, q_263_12, q_263_15, q_263_17, q_263_18, q_263_19, q_263_21, q_263_22, q_263_23, q_263_24, q_263_e, va_rf_s, bz_0, bz_1, bz_ok, bb_ok, Nat.add_assoc, w_lt, w_add, w_sub, w_mul, w_div, em_def, w_eq, w_inT, ↓ilt_t, ↓ilt_f, ↓ieq_t, ↓ieq_f, ntT, w_b, w_ix, kx_v, kx_n, kl_n, kl_i, kl_r, kl_o, inA_i, inA_s, inA_b, inA_z, inA_l, inA_0, inA_4, inA_5, inA_6, inA_7, inA_8, inA_9, inA_10, al_0, al_1, al_2, al_4, al_5, al_98, bsP_2, bsP_3, wr_same, wr_wr, wr_ne, up_same, up_ne, Nat.reduceAdd, Int.reduceAdd, Int.reduceSub, Int.reduceMul, Int.reduceLT, Int.reduceLE, Int.reduceEq, Int.reduceNeg, Int.reduceToNat, Nat.reduceLT, Nat.reduceLeDiff, Nat.reduceEqDiff, ↓reduceIte, true_and, and_true, not_true_eq_false, not_false_eq_true, eq_self, or_true, true_or, or_false, false_or, if_true, if_false, Int.toNat_natCast, w_ite, Nat.add_zero, reduceCtorEq, ne_eq]
      exact this
theorem sp_264 {l : Int} (h : LB S I L R G c s1 s2) (hf : few s1) (hl : B32 l) (hQ : HK S I G c s2 Q false (rLg s1 l (fun rs => vFixed rs s1.2.1.1))) : XC (d + 73) 264 [.ref c, .int (w l), .ref (c + 6799)] (mk S I L R G) Q := by
  have hc := h.1.1.1
  simp (disch := omega) only [q_264_0, q_264_1, q_264_2, q_264_3, q_264_4, q_264_7, q_264_8, q_264_9, q_264_12, q_264_13, q_264_14, q_264_15, q_264_16, q_264_e, va_rf_s, bz_0, bz_1, bz_ok, bb_ok, Nat.add_assoc, w_lt, w_add, w_sub, w_mul, w_div, em_def, w_eq, w_inT, ↓ilt_t, ↓ilt_f, ↓ieq_t, ↓ieq_f, ntT, w_b, w_ix, kx_v, kx_n, kl_n, kl_i, kl_r, kl_o, inA_i, inA_s, inA_b, inA_z, inA_l, inA_0, inA_4, inA_5, inA_6, inA_7, inA_8, inA_9, inA_10, al_0, al_1, al_2, al_4, al_5, al_98, bsP_2, bsP_3, wr_same, wr_wr, wr_ne, up_same, up_ne, Nat.reduceAdd, Int.reduceAdd, Int.reduceSub, Int.reduceMul, Int.reduceLT, Int.reduceLE, Int.reduceEq, Int.reduceNeg, Int.reduceToNat, Nat.reduceLT, Nat.reduceLeDiff, Nat.reduceEqDiff, ↓reduceIte, true_and, and_true, not_true_eq_false, not_false_eq_true, eq_self, or_true, true_or, or_false, false_or, if_true, if_false, Int.toNat_natCast, w_ite, Nat.add_zero, reduceCtorEq, ne_eq, hc]
  refine sp_136 h.1 hf hl (fun S' I' L' R' G' hC hF => ?_)
  obtain ⟨h', hL⟩ := h.cls hC hF
  have ho := h'.2.2.1
  cases hr : (rLg s1 l (fun rs => vFixed rs s1.2.1.1)).1 with
  | inl v =>
    have := hQ S' I' (wr L' (c + 6799) (up (L' (c + 6799)) 0 (w v).toInt64)) R' G' 0 (h'.out _) hL (by rw [hr]; exact ⟨rfl, by rw [wr_same, up_same]⟩)
    unfold outX
    simp (disch := omega) only [q_264_0, q_264_1, q_264_2, q_264_3, q_264_4, q_264_7, q_264_8, q_264_9, q_264_12, q_264_13, q_264_14, q_264_15, q_264_16, q_264_e, va_rf_s, bz_0, bz_1, bz_ok, bb_ok, Nat.add_assoc, w_lt, w_add, w_sub, w_mul, w_div, em_def, w_eq, w_inT, ↓ilt_t, ↓ilt_f, ↓ieq_t, ↓ieq_f, ntT, w_b, w_ix, kx_v, kx_n, kl_n, kl_i, kl_r, kl_o, inA_i, inA_s, inA_b, inA_z, inA_l, inA_0, inA_4, inA_5, inA_6, inA_7, inA_8, inA_9, inA_10, al_0, al_1, al_2, al_4, al_5, al_98, bsP_2, bsP_3, wr_same, wr_wr, wr_ne, up_same, up_ne, Nat.reduceAdd, Int.reduceAdd, Int.reduceSub, Int.reduceMul, Int.reduceLT, Int.reduceLE, Int.reduceEq, Int.reduceNeg, Int.reduceToNat, Nat.reduceLT, Nat.reduceLeDiff, Nat.reduceEqDiff, ↓reduceIte, true_and, and_true, not_true_eq_false, not_false_eq_true, eq_self, or_true, true_or, or_false, false_or, if_true, if_false, Int.toNat_natCast, w_ite, Nat.add_zero, reduceCtorEq, ne_eq, ho]
    exact this
  | inr E =>
    have hE := rLg_E hr
    have := hQ S' I' L' R' G' (tcode false E) h' hL (by rw [hr])
    unfold outX
    subst hE
    rw [kx_h (h := 12) rfl rfl (Nat.le_of_ble_eq_true rfl)]
    show XX (d + 73) 264 13 [some (.ref c), some (.int (w l)), some (.ref (c + 6799)), none] [] (mk S' I' L' R' G') Q
    simp (disch := omega) only [q_264_0, q_264_1, q_264_2, q_264_3, q_264_4, q_264_7, q_264_8, q_264_9, q_264_12, q_264_13, q_264_14, q_264_15, q_264_16, q_264_e, va_rf_s, bz_0, bz_1, bz_ok, bb_ok, Nat.add_assoc, w_lt, w_add, w_sub, w_mul, w_div, em_def, w_eq, w_inT, ↓ilt_t, ↓ilt_f, ↓ieq_t, ↓ieq_f, ntT, w_b, w_ix, kx_v, kx_n, kl_n, kl_i, kl_r, kl_o, inA_i, inA_s, inA_b, inA_z, inA_l, inA_0, inA_4, inA_5, inA_6, inA_7, inA_8, inA_9, inA_10, al_0, al_1, al_2, al_4, al_5, al_98, bsP_2, bsP_3, wr_same, wr_wr, wr_ne, up_same, up_ne, Nat.reduceAdd, Int.reduceAdd, Int.reduceSub, Int.reduceMul, Int.reduceLT, Int.reduceLE, Int.reduceEq, Int.reduceNeg, Int.reduceToNat, Nat.reduceLT, Nat.reduceLeDiff, Nat.reduceEqDiff, ↓reduceIte, true_and, and_true, not_true_eq_false, not_false_eq_true, eq_self, or_true, true_or, or_false, false_or, if_true, if_false, Int.toNat_natCast, w_ite, Nat.add_zero, reduceCtorEq, ne_eq]
    exact this
theorem sp_265 {l x : Int} (h : LB S I L R G c s1 s2) (hf : few s1) (hl : B32 l) (hx : B32 x) (hQ : HK S I G c s2 Q true (rLx s1 l x 2 (fun rs => vWords rs s1.2.1.1 x))) : XC (d + 73) 265 [.ref c, .int (w l), .int (w x), .ref (c + 6799)] (mk S I L R G) Q := by
  have hc := h.1.1.1
  simp (disch := omega) only [q_265_0, q_265_1, q_265_2, q_265_3, q_265_4, q_265_5, q_265_8, q_265_9, q_265_10, q_265_13, q_265_15, q_265_16, q_265_17, q_265_19, q_265_20, q_265_21, q_265_22, q_265_e, va_rf_s, bz_0, bz_1, bz_ok, bb_ok, Nat.add_assoc, w_lt, w_add, w_sub, w_mul, w_div, em_def, w_eq, w_inT, ↓ilt_t, ↓ilt_f, ↓ieq_t, ↓ieq_f, ntT, w_b, w_ix, kx_v, kx_n, kl_n, kl_i, kl_r, kl_o, inA_i, inA_s, inA_b, inA_z, inA_l, inA_0, inA_4, inA_5, inA_6, inA_7, inA_8, inA_9, inA_10, al_0, al_1, al_2, al_4, al_5, al_98, bsP_2, bsP_3, wr_same, wr_wr, wr_ne, up_same, up_ne, Nat.reduceAdd, Int.reduceAdd, Int.reduceSub, Int.reduceMul, Int.reduceLT, Int.reduceLE, Int.reduceEq, Int.reduceNeg, Int.reduceToNat, Nat.reduceLT, Nat.reduceLeDiff, Nat.reduceEqDiff, ↓reduceIte, true_and, and_true, not_true_eq_false, not_false_eq_true, eq_self, or_true, true_or, or_false, false_or, if_true, if_false, Int.toNat_natCast, w_ite, Nat.add_zero, reduceCtorEq, ne_eq, hc]
  refine sp_137 h.1 hf hl hx (fun S' I' L' R' G' hC hF => ?_)
  obtain ⟨h', hL⟩ := h.cls hC hF
  have ho := h'.2.2.1
  cases hr : (rLx s1 l x 2 (fun rs => vWords rs s1.2.1.1 x)).1 with
  | inl v =>
    have := hQ S' I' (wr L' (c + 6799) (up (L' (c + 6799)) 0 (w v).toInt64)) R' G' 0 (h'.out _) hL (by rw [hr]; exact ⟨rfl, by rw [wr_same, up_same]⟩)
    unfold outX
    simp (disch := omega) only [q_265_0, q_265_1, q_265_2, q_265_3, q_265_4, q_265_5, q_265_8, q_265_9, q_265_10, q_265_13, q_265_15, q_265_16, q_265_17, q_265_19, q_265_20, q_265_21, q_265_22, q_265_e, va_rf_s, bz_0, bz_1, bz_ok, bb_ok, Nat.add_assoc, w_lt, w_add, w_sub, w_mul, w_div, em_def, w_eq, w_inT, ↓ilt_t, ↓ilt_f, ↓ieq_t, ↓ieq_f, ntT, w_b, w_ix, kx_v, kx_n, kl_n, kl_i, kl_r, kl_o, inA_i, inA_s, inA_b, inA_z, inA_l, inA_0, inA_4, inA_5, inA_6, inA_7, inA_8, inA_9, inA_10, al_0, al_1, al_2, al_4, al_5, al_98, bsP_2, bsP_3, wr_same, wr_wr, wr_ne, up_same, up_ne, Nat.reduceAdd, Int.reduceAdd, Int.reduceSub, Int.reduceMul, Int.reduceLT, Int.reduceLE, Int.reduceEq, Int.reduceNeg, Int.reduceToNat, Nat.reduceLT, Nat.reduceLeDiff, Nat.reduceEqDiff, ↓reduceIte, true_and, and_true, not_true_eq_false, not_false_eq_true, eq_self, or_true, true_or, or_false, false_or, if_true, if_false, Int.toNat_natCast, w_ite, Nat.add_zero, reduceCtorEq, ne_eq, ho]
    exact this
  | inr E =>
    have hE := rLx_E hr
    have := hQ S' I' L' R' G' (tcode true E) h' hL (by rw [hr])
    unfold outX
    have hE2 : E = 0 ∨ E = 1 := by omega
    rcases hE2 with rfl | rfl
    · rw [kx_h (h := 13) rfl rfl (Nat.le_of_ble_eq_true rfl)]
      show XX (d + 73) 265 15 [some (.ref c), some (.int (w l)), some (.int (w x)), some (.ref (c + 6799)), none] [] (mk S' I' L' R' G') Q
      simp (disch := omega) only [q_265_0, q_265_1, q_265_2, q_265_3, q_265_4, q_265_5, q_265_8, q_265_9, q_265_10, q_265_13, q_265_15, q_265_16, q_265_17, q_265_19, q_265_20, q_265_21, q_265_22, q_265_e, va_rf_s, bz_0, bz_1, bz_ok, bb_ok, Nat.add_assoc, w_lt, w_add, w_sub, w_mul, w_div, em_def, w_eq, w_inT, ↓ilt_t, ↓ilt_f, ↓ieq_t, ↓ieq_f, ntT, w_b, w_ix, kx_v, kx_n, kl_n, kl_i, kl_r, kl_o, inA_i, inA_s, inA_b, inA_z, inA_l, inA_0, inA_4, inA_5, inA_6, inA_7, inA_8, inA_9, inA_10, al_0, al_1, al_2, al_4, al_5, al_98, bsP_2, bsP_3, wr_same, wr_wr, wr_ne, up_same, up_ne, Nat.reduceAdd, Int.reduceAdd, Int.reduceSub, Int.reduceMul, Int.reduceLT, Int.reduceLE, Int.reduceEq, Int.reduceNeg, Int.reduceToNat, Nat.reduceLT, Nat.reduceLeDiff, Nat.reduceEqDiff, ↓reduceIte, true_and, and_true, not_true_eq_false, not_false_eq_true, eq_self, or_true, true_or, or_false, false_or, if_true, if_false, Int.toNat_natCast, w_ite, Nat.add_zero, reduceCtorEq, ne_eq]
      exact this
    · rw [kx_h (h := 17) rfl rfl (Nat.le_of_ble_eq_true rfl)]
      show XX (d + 73) 265 19 [some (.ref c), some (.int (w l)), some (.int (w x)), some (.ref (c + 6799)), none] [] (mk S' I' L' R' G') Q
      simp (disch := omega) only [q_265_0, q_265_1, q_265_2, q_265_3, q_265_4, q_265_5, q_265_8, q_265_9, q_265_10, q_265_13, q_265_15, q_265_16, q_265_17, q_265_19, q_265_20, q_265_21, q_265_22, q_265_e, va_rf_s, bz_0, bz_1, bz_ok, bb_ok, Nat.add_assoc, w_lt, w_add, w_sub, w_mul, w_div, em_def, w_eq, w_inT, ↓ilt_t, ↓ilt_f, ↓ieq_t, ↓ieq_f, ntT, w_b, w_ix, kx_v, kx_n, kl_n, kl_i, kl_r, kl_o, inA_i, inA_s, inA_b, inA_z, inA_l, inA_0, inA_4, inA_5, inA_6, inA_7, inA_8, inA_9, inA_10, al_0, al_1, al_2, al_4, al_5, al_98, bsP_2, bsP_3, wr_same, wr_wr, wr_ne, up_same, up_ne, Nat.reduceAdd, Int.reduceAdd, Int.reduceSub, Int.reduceMul, Int.reduceLT, Int.reduceLE, Int.reduceEq, Int.reduceNeg, Int.reduceToNat, Nat.reduceLT, Nat.reduceLeDiff, Nat.reduceEqDiff, ↓reduceIte, true_and, and_true, not_true_eq_false, not_false_eq_true, eq_self, or_true, true_or, or_false, false_or, if_true, if_false, Int.toNat_natCast, w_ite, Nat.add_zero, reduceCtorEq, ne_eq]
      exact this
theorem sp_266 {l : Int} (h : LB S I L R G c s1 s2) (hf : few s1) (hl : B32 l) (hQ : HK S I G c s2 Q false (rLg s1 l (fun rs => vNeed rs s1.2.1.1))) : XC (d + 73) 266 [.ref c, .int (w l), .ref (c + 6799)] (mk S I L R G) Q := by
  have hc := h.1.1.1
  simp (disch := omega) only [q_266_0, q_266_1, q_266_2, q_266_3, q_266_4, q_266_7, q_266_8, q_266_9, q_266_12, q_266_13, q_266_14, q_266_15, q_266_16, q_266_e, va_rf_s, bz_0, bz_1, bz_ok, bb_ok, Nat.add_assoc, w_lt, w_add, w_sub, w_mul, w_div, em_def, w_eq, w_inT, ↓ilt_t, ↓ilt_f, ↓ieq_t, ↓ieq_f, ntT, w_b, w_ix, kx_v, kx_n, kl_n, kl_i, kl_r, kl_o, inA_i, inA_s, inA_b, inA_z, inA_l, inA_0, inA_4, inA_5, inA_6, inA_7, inA_8, inA_9, inA_10, al_0, al_1, al_2, al_4, al_5, al_98, bsP_2, bsP_3, wr_same, wr_wr, wr_ne, up_same, up_ne, Nat.reduceAdd, Int.reduceAdd, Int.reduceSub, Int.reduceMul, Int.reduceLT, Int.reduceLE, Int.reduceEq, Int.reduceNeg, Int.reduceToNat, Nat.reduceLT, Nat.reduceLeDiff, Nat.reduceEqDiff, ↓reduceIte, true_and, and_true, not_true_eq_false, not_false_eq_true, eq_self, or_true, true_or, or_false, false_or, if_true, if_false, Int.toNat_natCast, w_ite, Nat.add_zero, reduceCtorEq, ne_eq, hc]
  refine sp_138 h.1 hf hl (fun S' I' L' R' G' hC hF => ?_)
  obtain ⟨h', hL⟩ := h.cls hC hF
  have ho := h'.2.2.1
  cases hr : (rLg s1 l (fun rs => vNeed rs s1.2.1.1)).1 with
  | inl v =>
    have := hQ S' I' (wr L' (c + 6799) (up (L' (c + 6799)) 0 (w v).toInt64)) R' G' 0 (h'.out _) hL (by rw [hr]; exact ⟨rfl, by rw [wr_same, up_same]⟩)
    unfold outX
    simp (disch := omega) only [q_266_0, q_266_1, q_266_2, q_266_3, q_266_4, q_266_7, q_266_8, q_266_9, q_266_12, q_266_13, q_266_14, q_266_15, q_266_16, q_266_e, va_rf_s, bz_0, bz_1, bz_ok, bb_ok, Nat.add_assoc, w_lt, w_add, w_sub, w_mul, w_div, em_def, w_eq, w_inT, ↓ilt_t, ↓ilt_f, ↓ieq_t, ↓ieq_f, ntT, w_b, w_ix, kx_v, kx_n, kl_n, kl_i, kl_r, kl_o, inA_i, inA_s, inA_b, inA_z, inA_l, inA_0, inA_4, inA_5, inA_6, inA_7, inA_8, inA_9, inA_10, al_0, al_1, al_2, al_4, al_5, al_98, bsP_2, bsP_3, wr_same, wr_wr, wr_ne, up_same, up_ne, Nat.reduceAdd, Int.reduceAdd, Int.reduceSub, Int.reduceMul, Int.reduceLT, Int.reduceLE, Int.reduceEq, Int.reduceNeg, Int.reduceToNat, Nat.reduceLT, Nat.reduceLeDiff, Nat.reduceEqDiff, ↓reduceIte, true_and, and_true, not_true_eq_false, not_false_eq_true, eq_self, or_true, true_or, or_false, false_or, if_true, if_false, Int.toNat_natCast, w_ite, Nat.add_zero, reduceCtorEq, ne_eq, ho]
    exact this
  | inr E =>
    have hE := rLg_E hr
    have := hQ S' I' L' R' G' (tcode false E) h' hL (by rw [hr])
    unfold outX
    subst hE
    rw [kx_h (h := 12) rfl rfl (Nat.le_of_ble_eq_true rfl)]
    show XX (d + 73) 266 13 [some (.ref c), some (.int (w l)), some (.ref (c + 6799)), none] [] (mk S' I' L' R' G') Q
    simp (disch := omega) only [q_266_0, q_266_1, q_266_2, q_266_3, q_266_4, q_266_7, q_266_8, q_266_9, q_266_12, q_266_13, q_266_14, q_266_15, q_266_16, q_266_e, va_rf_s, bz_0, bz_1, bz_ok, bb_ok, Nat.add_assoc, w_lt, w_add, w_sub, w_mul, w_div, em_def, w_eq, w_inT, ↓ilt_t, ↓ilt_f, ↓ieq_t, ↓ieq_f, ntT, w_b, w_ix, kx_v, kx_n, kl_n, kl_i, kl_r, kl_o, inA_i, inA_s, inA_b, inA_z, inA_l, inA_0, inA_4, inA_5, inA_6, inA_7, inA_8, inA_9, inA_10, al_0, al_1, al_2, al_4, al_5, al_98, bsP_2, bsP_3, wr_same, wr_wr, wr_ne, up_same, up_ne, Nat.reduceAdd, Int.reduceAdd, Int.reduceSub, Int.reduceMul, Int.reduceLT, Int.reduceLE, Int.reduceEq, Int.reduceNeg, Int.reduceToNat, Nat.reduceLT, Nat.reduceLeDiff, Nat.reduceEqDiff, ↓reduceIte, true_and, and_true, not_true_eq_false, not_false_eq_true, eq_self, or_true, true_or, or_false, false_or, if_true, if_false, Int.toNat_natCast, w_ite, Nat.add_zero, reduceCtorEq, ne_eq]
    exact this
theorem sp_267 {l : Int} (h : LB S I L R G c s1 s2) (hf : few s1) (hl : B32 l)
    (hQ1 : inL l → ∀ (S' : SH) (I' : MI) (L' : ML) (R' : MR) (G' : MG), LB S' I' L' R' G' c s1 s2 → LFr S I G c S' I' G' 1 → L' (c + 6799) 0 = prF (fun n => T (rlz s1 l) n) (s1.2.1.1 + 1) → Q (.inl (some (.int (w 0)))) (mk S' I' L' R' G'))
    (hQ0 : ¬ inL l → ∀ (S' : SH) (I' : MI) (L' : ML) (R' : MR) (G' : MG), LB S' I' L' R' G' c (miss s1) s2 → LFr S I G c S' I' G' 1 → Q (.inl (some (.int (w 1)))) (mk S' I' L' R' G')) : XC (d + 73) 267 [.ref c, .int (w l), .ref (c + 6799)] (mk S I L R G) Q := by
  have hc := h.1.1.1
  simp (disch := omega) only [q_267_0, q_267_1, q_267_2, q_267_3, q_267_4, q_267_7, q_267_8, q_267_11, q_267_12, q_267_13, q_267_14, q_267_15, q_267_e, va_rf_s, bz_0, bz_1, bz_ok, bb_ok, Nat.add_assoc, w_lt, w_add, w_sub, w_mul, w_div, em_def, w_eq, w_inT, ↓ilt_t, ↓ilt_f, ↓ieq_t, ↓ieq_f, ntT, w_b, w_ix, kx_v, kx_n, kl_n, kl_i, kl_r, kl_o, inA_i, inA_s, inA_b, inA_z, inA_l, inA_0, inA_4, inA_5, inA_6, inA_7, inA_8, inA_9, inA_10, al_0, al_1, al_2, al_4, al_5, al_98, bsP_2, bsP_3, wr_same, wr_wr, wr_ne, up_same, up_ne, Nat.reduceAdd, Int.reduceAdd, Int.reduceSub, Int.reduceMul, Int.reduceLT, Int.reduceLE, Int.reduceEq, Int.reduceNeg, Int.reduceToNat, Nat.reduceLT, Nat.reduceLeDiff, Nat.reduceEqDiff, ↓reduceIte, true_and, and_true, not_true_eq_false, not_false_eq_true, eq_self, or_true, true_or, or_false, false_or, if_true, if_false, Int.toNat_natCast, w_ite, Nat.add_zero, reduceCtorEq, ne_eq, hc]
  refine sp_139 h.1 hf hl (fun S' I' L' R' G' hC hF => ?_)
  obtain ⟨h', hL⟩ := h.cls hC hF
  have ho := h'.2.2.1
  unfold rPrint at h' ⊢
  by_cases cl : inL l
  · rw [if_pos cl] at h' ⊢
    have := hQ1 cl S' I' (wr L' (c + 6799) (up (L' (c + 6799)) 0 (prF (fun n => T (rlz s1 l) n) (s1.2.1.1 + 1)))) R' G' (h'.out _) hL (by rw [wr_same, up_same])
    simp (disch := omega) only [q_267_0, q_267_1, q_267_2, q_267_3, q_267_4, q_267_7, q_267_8, q_267_11, q_267_12, q_267_13, q_267_14, q_267_15, q_267_e, va_rf_s, bz_0, bz_1, bz_ok, bb_ok, Nat.add_assoc, w_lt, w_add, w_sub, w_mul, w_div, em_def, w_eq, w_inT, ↓ilt_t, ↓ilt_f, ↓ieq_t, ↓ieq_f, ntT, w_b, w_ix, kx_v, kx_n, kl_n, kl_i, kl_r, kl_o, inA_i, inA_s, inA_b, inA_z, inA_l, inA_0, inA_4, inA_5, inA_6, inA_7, inA_8, inA_9, inA_10, al_0, al_1, al_2, al_4, al_5, al_98, bsP_2, bsP_3, wr_same, wr_wr, wr_ne, up_same, up_ne, Nat.reduceAdd, Int.reduceAdd, Int.reduceSub, Int.reduceMul, Int.reduceLT, Int.reduceLE, Int.reduceEq, Int.reduceNeg, Int.reduceToNat, Nat.reduceLT, Nat.reduceLeDiff, Nat.reduceEqDiff, ↓reduceIte, true_and, and_true, not_true_eq_false, not_false_eq_true, eq_self, or_true, true_or, or_false, false_or, if_true, if_false, Int.toNat_natCast, w_ite, Nat.add_zero, reduceCtorEq, ne_eq, ho]
    exact this
  · rw [if_neg cl] at h' ⊢
    have := hQ0 cl S' I' L' R' G' h' hL
    rw [kx_h (h := 11) rfl rfl (Nat.le_of_ble_eq_true rfl)]
    show XX (d + 73) 267 12 [some (.ref c), some (.int (w l)), some (.ref (c + 6799)), none] [] (mk S' I' L' R' G') Q
    simp (disch := omega) only [q_267_0, q_267_1, q_267_2, q_267_3, q_267_4, q_267_7, q_267_8, q_267_11, q_267_12, q_267_13, q_267_14, q_267_15, q_267_e, va_rf_s, bz_0, bz_1, bz_ok, bb_ok, Nat.add_assoc, w_lt, w_add, w_sub, w_mul, w_div, em_def, w_eq, w_inT, ↓ilt_t, ↓ilt_f, ↓ieq_t, ↓ieq_f, ntT, w_b, w_ix, kx_v, kx_n, kl_n, kl_i, kl_r, kl_o, inA_i, inA_s, inA_b, inA_z, inA_l, inA_0, inA_4, inA_5, inA_6, inA_7, inA_8, inA_9, inA_10, al_0, al_1, al_2, al_4, al_5, al_98, bsP_2, bsP_3, wr_same, wr_wr, wr_ne, up_same, up_ne, Nat.reduceAdd, Int.reduceAdd, Int.reduceSub, Int.reduceMul, Int.reduceLT, Int.reduceLE, Int.reduceEq, Int.reduceNeg, Int.reduceToNat, Nat.reduceLT, Nat.reduceLeDiff, Nat.reduceEqDiff, ↓reduceIte, true_and, and_true, not_true_eq_false, not_false_eq_true, eq_self, or_true, true_or, or_false, false_or, if_true, if_false, Int.toNat_natCast, w_ite, Nat.add_zero, reduceCtorEq, ne_eq]
    exact this
end

/-! the class's calls: rule, item -/
section
variable {d : Nat} {Q : XO → Hp → Prop} {S : SH} {I : MI} {L : ML} {R : MR} {G : MG} {A : Hp}
variable {c lo : Nat} {s : St}
theorem CR.rule (h : CR S I L R G c lo s) {l q : Int} (hr : isRl s l q) : ∃ r, R (c + 4) (l.toNat * 30 + q.toNat) = some r ∧ lo ≤ r ∧ RuleAt S I L r ((rlz s l).getD q.toNat rd0) := by
  have h1 := (h.2.2.2.2.1.2.2.2 l.toNat (by omega)).2.2 q.toNat (by have := hr.2; unfold rlz at this; omega)
  obtain ⟨r, r1, r2, r3⟩ := h1
  exact ⟨r, r1, r2, r3⟩
theorem sp_144 {l q : Int} {r : Nat} (h : CR S I L R G c lo s) (hr : isRl s l q) (hrr : R (c + 4) (l.toNat * 30 + q.toNat) = some r) : XC (d + 2) 144 [.ref c, .int (w l), .int (w q)] (mk S I L R G) Q ↔ Q (.inl (some (.ref r))) (mk S I L R G) := by
  have hc := h.1.1
  have hm : l.toNat < 2 := by omega
  obtain ⟨b1, b2, b3, b4⟩ := h.bk
  have el : l = (l.toNat : Int) := by omega
  have eq : q = (q.toNat : Int) := by omega
  have s143 := fun {d : Nat} {Q : XO → Hp → Prop} => sp_143 (d := d) (Q := Q) (S := S) (I := I) (L := L) (R := R) (G := G) (c := c) hm hc
  have hlen : q.toNat < (s.2.1.2 l.toNat).length := by have := hr.2; unfold rlz at this; omega
  have s2 := fun {d : Nat} {Q : XO → Hp → Prop} => sp_2 (d := d) (Q := Q) (I := I) (L := L) (R := R) (G := G) h.1.2.2.1 hm (b4 _ hm).1 (b4 _ hm).2 hlen (by show R (c + 4) _ = _; exact hrr)
  rw [← el] at s143 s2
  rw [← eq] at s2
  have hB := h.1.2.2.1.1
  simp (disch := omega) only [q_144_0, q_144_1, q_144_2, q_144_5, q_144_6, q_144_9, q_144_10, q_144_11, q_144_14, q_144_14o, q_144_15, q_144_15o, q_144_16o, q_144_16, q_144_19, q_144_20, q_144_21, q_144_24, q_144_25, q_144_26, q_144_29, q_144_40, q_144_40o, q_144_41, q_144_41o, q_144_e, va_rf_s, bz_0, bz_1, bz_ok, bb_ok, Nat.add_assoc, w_lt, w_add, w_sub, w_mul, w_div, em_def, w_eq, w_inT, ↓ilt_t, ↓ilt_f, ↓ieq_t, ↓ieq_f, ntT, w_b, w_ix, kx_v, kx_n, kl_n, kl_i, kl_r, kl_o, inA_i, inA_s, inA_b, inA_z, inA_l, inA_0, inA_4, inA_5, inA_6, inA_7, inA_8, inA_9, inA_10, al_0, al_1, al_2, al_4, al_5, al_98, bsP_2, bsP_3, wr_same, wr_wr, wr_ne, up_same, up_ne, Nat.reduceAdd, Int.reduceAdd, Int.reduceSub, Int.reduceMul, Int.reduceLT, Int.reduceLE, Int.reduceEq, Int.reduceNeg, Int.reduceToNat, Nat.reduceLT, Nat.reduceLeDiff, Nat.reduceEqDiff, ↓reduceIte, true_and, and_true, not_true_eq_false, not_false_eq_true, eq_self, or_true, true_or, or_false, false_or, if_true, if_false, Int.toNat_natCast, w_ite, Nat.add_zero, reduceCtorEq, ne_eq, hc, s143, s2, hB]
theorem sp_144x {l q : Int} (h : CR S I L R G c lo s) (hl : B32 l) (hq : B32 q) (hr : ¬ isRl s l q) : XC (d + 2) 144 [.ref c, .int (w l), .int (w q)] (mk S I L R G) Q ↔ Q (.inr 0) (mk S (wr I c (up (I c) 11 (w (s.2.2.2.2.1 + 1 : Nat)))) L R (G.1 + 1, G.2.1 + 6, G.2.2)) := by
  have hc := h.1.1
  have hms := h.2.2.2.2.2.2.2.2.2.2.2.1
  have hk : t_han 144 = [] := rfl
  obtain ⟨b1, b2, b3, b4⟩ := h.bk
  by_cases cl : inL l
  · have hm : l.toNat < 2 := by omega
    have el : l = (l.toNat : Int) := by omega
    have s143 := fun {d : Nat} {Q : XO → Hp → Prop} => sp_143 (d := d) (Q := Q) (S := S) (I := I) (L := L) (R := R) (G := G) (c := c) hm hc
    have s2 := fun {d : Nat} {Q : XO → Hp → Prop} => sp_2n (d := d) (Q := Q) (I := I) (L := L) (R := R) (G := G) (i := q) h.1.2.2.1 hm (b4 _ hm).1 (b4 _ hm).2 hq.1 hq.2 (by
      apply Classical.byContradiction
      intro hn
      exact hr ⟨cl, by unfold rlz; omega⟩)
    rw [← el] at s143 s2
    have hB := h.1.2.2.1.1
    have hn : (Value.null) = va_rf none := rfl
    simp only [Int.natCast_add, Int.natCast_one]
    simp (disch := omega) only [q_144_0, q_144_1, q_144_2, q_144_5, q_144_6, q_144_9, q_144_10, q_144_11, q_144_14, q_144_14o, q_144_15, q_144_15o, q_144_16o, q_144_16, q_144_19, q_144_20, q_144_21, q_144_24, q_144_25, q_144_26, q_144_29, q_144_40, q_144_40o, q_144_41, q_144_41o, q_144_e, va_rf_s, bz_0, bz_1, bz_ok, bb_ok, Nat.add_assoc, w_lt, w_add, w_sub, w_mul, w_div, em_def, w_eq, w_inT, ↓ilt_t, ↓ilt_f, ↓ieq_t, ↓ieq_f, ntT, w_b, w_ix, kx_v, kx_n, kl_n, kl_i, kl_r, kl_o, inA_i, inA_s, inA_b, inA_z, inA_l, inA_0, inA_4, inA_5, inA_6, inA_7, inA_8, inA_9, inA_10, al_0, al_1, al_2, al_4, al_5, al_98, bsP_2, bsP_3, wr_same, wr_wr, wr_ne, up_same, up_ne, Nat.reduceAdd, Int.reduceAdd, Int.reduceSub, Int.reduceMul, Int.reduceLT, Int.reduceLE, Int.reduceEq, Int.reduceNeg, Int.reduceToNat, Nat.reduceLT, Nat.reduceLeDiff, Nat.reduceEqDiff, ↓reduceIte, true_and, and_true, not_true_eq_false, not_false_eq_true, eq_self, or_true, true_or, or_false, false_or, if_true, if_false, Int.toNat_natCast, w_ite, Nat.add_zero, reduceCtorEq, ne_eq, hc, s143, s2, hB, hms]
    simp (disch := omega) only [hn, q_144_0, q_144_1, q_144_2, q_144_5, q_144_6, q_144_9, q_144_10, q_144_11, q_144_14, q_144_14o, q_144_15, q_144_15o, q_144_16o, q_144_16, q_144_19, q_144_20, q_144_21, q_144_24, q_144_25, q_144_26, q_144_29, q_144_40, q_144_40o, q_144_41, q_144_41o, q_144_e, va_rf_s, bz_0, bz_1, bz_ok, bb_ok, Nat.add_assoc, w_lt, w_add, w_sub, w_mul, w_div, em_def, w_eq, w_inT, ↓ilt_t, ↓ilt_f, ↓ieq_t, ↓ieq_f, ntT, w_b, w_ix, kx_v, kx_n, kl_n, kl_i, kl_r, kl_o, inA_i, inA_s, inA_b, inA_z, inA_l, inA_0, inA_4, inA_5, inA_6, inA_7, inA_8, inA_9, inA_10, al_0, al_1, al_2, al_4, al_5, al_98, bsP_2, bsP_3, wr_same, wr_wr, wr_ne, up_same, up_ne, Nat.reduceAdd, Int.reduceAdd, Int.reduceSub, Int.reduceMul, Int.reduceLT, Int.reduceLE, Int.reduceEq, Int.reduceNeg, Int.reduceToNat, Nat.reduceLT, Nat.reduceLeDiff, Nat.reduceEqDiff, ↓reduceIte, true_and, and_true, not_true_eq_false, not_false_eq_true, eq_self, or_true, true_or, or_false, false_or, if_true, if_false, Int.toNat_natCast, w_ite, Nat.add_zero, reduceCtorEq, ne_eq, hc, hms]
  · have s143 := fun {d : Nat} {Q : XO → Hp → Prop} => sp_143x (d := d) (Q := Q) (S := S) (I := I) (L := L) (R := R) (G := G) (c := c) (v := l) hc hms (by omega) hl.1 hl.2
    simp (disch := omega) only [q_144_0, q_144_1, q_144_2, q_144_5, q_144_6, q_144_9, q_144_10, q_144_11, q_144_14, q_144_14o, q_144_15, q_144_15o, q_144_16o, q_144_16, q_144_19, q_144_20, q_144_21, q_144_24, q_144_25, q_144_26, q_144_29, q_144_40, q_144_40o, q_144_41, q_144_41o, q_144_e, va_rf_s, bz_0, bz_1, bz_ok, bb_ok, Nat.add_assoc, w_lt, w_add, w_sub, w_mul, w_div, em_def, w_eq, w_inT, ↓ilt_t, ↓ilt_f, ↓ieq_t, ↓ieq_f, ntT, w_b, w_ix, kx_v, kx_n, kl_n, kl_i, kl_r, kl_o, inA_i, inA_s, inA_b, inA_z, inA_l, inA_0, inA_4, inA_5, inA_6, inA_7, inA_8, inA_9, inA_10, al_0, al_1, al_2, al_4, al_5, al_98, bsP_2, bsP_3, wr_same, wr_wr, wr_ne, up_same, up_ne, Nat.reduceAdd, Int.reduceAdd, Int.reduceSub, Int.reduceMul, Int.reduceLT, Int.reduceLE, Int.reduceEq, Int.reduceNeg, Int.reduceToNat, Nat.reduceLT, Nat.reduceLeDiff, Nat.reduceEqDiff, ↓reduceIte, true_and, and_true, not_true_eq_false, not_false_eq_true, eq_self, or_true, true_or, or_false, false_or, if_true, if_false, Int.toNat_natCast, w_ite, Nat.add_zero, reduceCtorEq, ne_eq, hc, s143, kx_t hk]
theorem sp_116 {l q x : Int} (h : CR S I L R G c lo s) (hf : few s) (hl : B32 l) (hq : B32 q) (hx : B32 x) (hQ : CK S I L R G c lo Q (outX (rRule s l q x).1) (rRule s l q x).2) : XC (d + 3) 116 [.ref c, .int (w l), .int (w q), .int (w x)] (mk S I L R G) Q := by
  have hc := h.1.1
  have hwg := h.2.2.2.2.2.2.2.2.2.2.2.2.1
  have hk : t_han 116 = [] := rfl
  obtain ⟨b1, b2, b3, b4⟩ := h.bk
  unfold rRule at hQ
  by_cases cr : isRl s l q
  · rw [if_pos cr] at hQ
    obtain ⟨r, r1, r2, r3⟩ := h.rule cr
    have s144 := fun {d : Nat} {Q : XO → Hp → Prop} => sp_144 (d := d) (Q := Q) h cr r1
    by_cases cx : 0 ≤ x ∧ x ≤ 5
    · rw [if_pos cx] at hQ
      have hQ' := CK.ask h (Rem.refl h) hQ
      dsimp only at hQ'
      have s146 := fun {d : Nat} {Q : XO → Hp → Prop} => sp_146 (d := d) (Q := Q) (S := S) (I := I) (L := L) (R := R) (G := G) (c := c) (v := x) (l := 0) (h := 5) cx hx.1 hx.2 (by decide) (by decide) (by decide) (by decide)
      obtain ⟨g0, g1, g2, g3, g4, g5, g6, g7, g8⟩ := id r3
      simp (disch := omega) only [q_116_0, q_116_1, q_116_2, q_116_3, q_116_6, q_116_8, q_116_9, q_116_10, q_116_11, q_116_12, q_116_15, q_116_16, q_116_52, q_116_54, q_116_57, q_116_58, q_116_60, q_116_63, q_116_64, q_116_66, q_116_69, q_116_70, q_116_72, q_116_75, q_116_76, q_116_78, q_116_81, q_116_82, q_116_83, q_116_84, q_116_87, q_116_88, q_116_89, q_116_92, q_116_95, q_116_98, q_116_e, va_rf_s, bz_0, bz_1, bz_ok, bb_ok, Nat.add_assoc, w_lt, w_add, w_sub, w_mul, w_div, em_def, w_eq, w_inT, ↓ilt_t, ↓ilt_f, ↓ieq_t, ↓ieq_f, ntT, w_b, w_ix, kx_v, kx_n, kl_n, kl_i, kl_r, kl_o, inA_i, inA_s, inA_b, inA_z, inA_l, inA_0, inA_4, inA_5, inA_6, inA_7, inA_8, inA_9, inA_10, al_0, al_1, al_2, al_4, al_5, al_98, bsP_2, bsP_3, wr_same, wr_wr, wr_ne, up_same, up_ne, Nat.reduceAdd, Int.reduceAdd, Int.reduceSub, Int.reduceMul, Int.reduceLT, Int.reduceLE, Int.reduceEq, Int.reduceNeg, Int.reduceToNat, Nat.reduceLT, Nat.reduceLeDiff, Nat.reduceEqDiff, ↓reduceIte, true_and, and_true, not_true_eq_false, not_false_eq_true, eq_self, or_true, true_or, or_false, false_or, if_true, if_false, Int.toNat_natCast, w_ite, Nat.add_zero, reduceCtorEq, ne_eq, hc, s144, s146, w_toInt]
      have hcs : x = 0 ∨ x = 1 ∨ x = 2 ∨ x = 3 ∨ x = 4 ∨ x = 5 := by omega
      rcases hcs with e | e | e | e | e | e
      · subst e
        rw [show swT [52, 58, 64, 70, 76] 82 0 0 = 52 from rfl]
        simp (disch := omega) only [q_116_0, q_116_1, q_116_2, q_116_3, q_116_6, q_116_8, q_116_9, q_116_10, q_116_11, q_116_12, q_116_15, q_116_16, q_116_52, q_116_54, q_116_57, q_116_58, q_116_60, q_116_63, q_116_64, q_116_66, q_116_69, q_116_70, q_116_72, q_116_75, q_116_76, q_116_78, q_116_81, q_116_82, q_116_83, q_116_84, q_116_87, q_116_88, q_116_89, q_116_92, q_116_95, q_116_98, q_116_e, va_rf_s, bz_0, bz_1, bz_ok, bb_ok, Nat.add_assoc, w_lt, w_add, w_sub, w_mul, w_div, em_def, w_eq, w_inT, ↓ilt_t, ↓ilt_f, ↓ieq_t, ↓ieq_f, ntT, w_b, w_ix, kx_v, kx_n, kl_n, kl_i, kl_r, kl_o, inA_i, inA_s, inA_b, inA_z, inA_l, inA_0, inA_4, inA_5, inA_6, inA_7, inA_8, inA_9, inA_10, al_0, al_1, al_2, al_4, al_5, al_98, bsP_2, bsP_3, wr_same, wr_wr, wr_ne, up_same, up_ne, Nat.reduceAdd, Int.reduceAdd, Int.reduceSub, Int.reduceMul, Int.reduceLT, Int.reduceLE, Int.reduceEq, Int.reduceNeg, Int.reduceToNat, Nat.reduceLT, Nat.reduceLeDiff, Nat.reduceEqDiff, ↓reduceIte, true_and, and_true, not_true_eq_false, not_false_eq_true, eq_self, or_true, true_or, or_false, false_or, if_true, if_false, Int.toNat_natCast, w_ite, Nat.add_zero, reduceCtorEq, ne_eq, g0, g4]
        exact hQ'
      · subst e
        rw [show swT [52, 58, 64, 70, 76] 82 0 1 = 58 from rfl]
        simp (disch := omega) only [q_116_0, q_116_1, q_116_2, q_116_3, q_116_6, q_116_8, q_116_9, q_116_10, q_116_11, q_116_12, q_116_15, q_116_16, q_116_52, q_116_54, q_116_57, q_116_58, q_116_60, q_116_63, q_116_64, q_116_66, q_116_69, q_116_70, q_116_72, q_116_75, q_116_76, q_116_78, q_116_81, q_116_82, q_116_83, q_116_84, q_116_87, q_116_88, q_116_89, q_116_92, q_116_95, q_116_98, q_116_e, va_rf_s, bz_0, bz_1, bz_ok, bb_ok, Nat.add_assoc, w_lt, w_add, w_sub, w_mul, w_div, em_def, w_eq, w_inT, ↓ilt_t, ↓ilt_f, ↓ieq_t, ↓ieq_f, ntT, w_b, w_ix, kx_v, kx_n, kl_n, kl_i, kl_r, kl_o, inA_i, inA_s, inA_b, inA_z, inA_l, inA_0, inA_4, inA_5, inA_6, inA_7, inA_8, inA_9, inA_10, al_0, al_1, al_2, al_4, al_5, al_98, bsP_2, bsP_3, wr_same, wr_wr, wr_ne, up_same, up_ne, Nat.reduceAdd, Int.reduceAdd, Int.reduceSub, Int.reduceMul, Int.reduceLT, Int.reduceLE, Int.reduceEq, Int.reduceNeg, Int.reduceToNat, Nat.reduceLT, Nat.reduceLeDiff, Nat.reduceEqDiff, ↓reduceIte, true_and, and_true, not_true_eq_false, not_false_eq_true, eq_self, or_true, true_or, or_false, false_or, if_true, if_false, Int.toNat_natCast, w_ite, Nat.add_zero, reduceCtorEq, ne_eq, g0, g5]
        exact hQ'
      · subst e
        rw [show swT [52, 58, 64, 70, 76] 82 0 2 = 64 from rfl]
        simp (disch := omega) only [q_116_0, q_116_1, q_116_2, q_116_3, q_116_6, q_116_8, q_116_9, q_116_10, q_116_11, q_116_12, q_116_15, q_116_16, q_116_52, q_116_54, q_116_57, q_116_58, q_116_60, q_116_63, q_116_64, q_116_66, q_116_69, q_116_70, q_116_72, q_116_75, q_116_76, q_116_78, q_116_81, q_116_82, q_116_83, q_116_84, q_116_87, q_116_88, q_116_89, q_116_92, q_116_95, q_116_98, q_116_e, va_rf_s, bz_0, bz_1, bz_ok, bb_ok, Nat.add_assoc, w_lt, w_add, w_sub, w_mul, w_div, em_def, w_eq, w_inT, ↓ilt_t, ↓ilt_f, ↓ieq_t, ↓ieq_f, ntT, w_b, w_ix, kx_v, kx_n, kl_n, kl_i, kl_r, kl_o, inA_i, inA_s, inA_b, inA_z, inA_l, inA_0, inA_4, inA_5, inA_6, inA_7, inA_8, inA_9, inA_10, al_0, al_1, al_2, al_4, al_5, al_98, bsP_2, bsP_3, wr_same, wr_wr, wr_ne, up_same, up_ne, Nat.reduceAdd, Int.reduceAdd, Int.reduceSub, Int.reduceMul, Int.reduceLT, Int.reduceLE, Int.reduceEq, Int.reduceNeg, Int.reduceToNat, Nat.reduceLT, Nat.reduceLeDiff, Nat.reduceEqDiff, ↓reduceIte, true_and, and_true, not_true_eq_false, not_false_eq_true, eq_self, or_true, true_or, or_false, false_or, if_true, if_false, Int.toNat_natCast, w_ite, Nat.add_zero, reduceCtorEq, ne_eq, g0, g6]
        exact hQ'
      · subst e
        rw [show swT [52, 58, 64, 70, 76] 82 0 3 = 70 from rfl]
        simp (disch := omega) only [q_116_0, q_116_1, q_116_2, q_116_3, q_116_6, q_116_8, q_116_9, q_116_10, q_116_11, q_116_12, q_116_15, q_116_16, q_116_52, q_116_54, q_116_57, q_116_58, q_116_60, q_116_63, q_116_64, q_116_66, q_116_69, q_116_70, q_116_72, q_116_75, q_116_76, q_116_78, q_116_81, q_116_82, q_116_83, q_116_84, q_116_87, q_116_88, q_116_89, q_116_92, q_116_95, q_116_98, q_116_e, va_rf_s, bz_0, bz_1, bz_ok, bb_ok, Nat.add_assoc, w_lt, w_add, w_sub, w_mul, w_div, em_def, w_eq, w_inT, ↓ilt_t, ↓ilt_f, ↓ieq_t, ↓ieq_f, ntT, w_b, w_ix, kx_v, kx_n, kl_n, kl_i, kl_r, kl_o, inA_i, inA_s, inA_b, inA_z, inA_l, inA_0, inA_4, inA_5, inA_6, inA_7, inA_8, inA_9, inA_10, al_0, al_1, al_2, al_4, al_5, al_98, bsP_2, bsP_3, wr_same, wr_wr, wr_ne, up_same, up_ne, Nat.reduceAdd, Int.reduceAdd, Int.reduceSub, Int.reduceMul, Int.reduceLT, Int.reduceLE, Int.reduceEq, Int.reduceNeg, Int.reduceToNat, Nat.reduceLT, Nat.reduceLeDiff, Nat.reduceEqDiff, ↓reduceIte, true_and, and_true, not_true_eq_false, not_false_eq_true, eq_self, or_true, true_or, or_false, false_or, if_true, if_false, Int.toNat_natCast, w_ite, Nat.add_zero, reduceCtorEq, ne_eq, g0, g7]
        exact hQ'
      · subst e
        rw [show swT [52, 58, 64, 70, 76] 82 0 4 = 76 from rfl]
        simp (disch := omega) only [q_116_0, q_116_1, q_116_2, q_116_3, q_116_6, q_116_8, q_116_9, q_116_10, q_116_11, q_116_12, q_116_15, q_116_16, q_116_52, q_116_54, q_116_57, q_116_58, q_116_60, q_116_63, q_116_64, q_116_66, q_116_69, q_116_70, q_116_72, q_116_75, q_116_76, q_116_78, q_116_81, q_116_82, q_116_83, q_116_84, q_116_87, q_116_88, q_116_89, q_116_92, q_116_95, q_116_98, q_116_e, va_rf_s, bz_0, bz_1, bz_ok, bb_ok, Nat.add_assoc, w_lt, w_add, w_sub, w_mul, w_div, em_def, w_eq, w_inT, ↓ilt_t, ↓ilt_f, ↓ieq_t, ↓ieq_f, ntT, w_b, w_ix, kx_v, kx_n, kl_n, kl_i, kl_r, kl_o, inA_i, inA_s, inA_b, inA_z, inA_l, inA_0, inA_4, inA_5, inA_6, inA_7, inA_8, inA_9, inA_10, al_0, al_1, al_2, al_4, al_5, al_98, bsP_2, bsP_3, wr_same, wr_wr, wr_ne, up_same, up_ne, Nat.reduceAdd, Int.reduceAdd, Int.reduceSub, Int.reduceMul, Int.reduceLT, Int.reduceLE, Int.reduceEq, Int.reduceNeg, Int.reduceToNat, Nat.reduceLT, Nat.reduceLeDiff, Nat.reduceEqDiff, ↓reduceIte, true_and, and_true, not_true_eq_false, not_false_eq_true, eq_self, or_true, true_or, or_false, false_or, if_true, if_false, Int.toNat_natCast, w_ite, Nat.add_zero, reduceCtorEq, ne_eq, g0, sp_55 r3]
        exact hQ'
      · subst e
        rw [show swT [52, 58, 64, 70, 76] 82 0 5 = 82 from rfl]
        have hm : l.toNat < 2 := by omega
        have el : l = (l.toNat : Int) := by omega
        obtain ⟨k1, k2, k3⟩ := h.rank hm
        have s142 := fun {d : Nat} {Q : XO → Hp → Prop} => sp_142 (d := d) (Q := Q) (S := S) (I := I) (L := L) (R := R) (G := G) (c := c) hm hc k1.1
        rw [← el] at s142
        have h30 := (b4 _ hm).2
        have hr2 := cr.2
        unfold rlz at hr2
        have s83 := fun {d : Nat} {Q : XO → Hp → Prop} => sp_83 (d := d) (Q := Q) (I := I) (L := L) (G := G) (z := q) k1.2.1 k2.1 b3 (by omega) (by omega)
        have hv := k1.2.1.1
        simp only [Nat.add_assoc] at s142 s83 hv
        have hB := h.1.2.2.1.1
        simp (disch := omega) only [q_116_0, q_116_1, q_116_2, q_116_3, q_116_6, q_116_8, q_116_9, q_116_10, q_116_11, q_116_12, q_116_15, q_116_16, q_116_52, q_116_54, q_116_57, q_116_58, q_116_60, q_116_63, q_116_64, q_116_66, q_116_69, q_116_70, q_116_72, q_116_75, q_116_76, q_116_78, q_116_81, q_116_82, q_116_83, q_116_84, q_116_87, q_116_88, q_116_89, q_116_92, q_116_95, q_116_98, q_116_e, va_rf_s, bz_0, bz_1, bz_ok, bb_ok, Nat.add_assoc, w_lt, w_add, w_sub, w_mul, w_div, em_def, w_eq, w_inT, ↓ilt_t, ↓ilt_f, ↓ieq_t, ↓ieq_f, ntT, w_b, w_ix, kx_v, kx_n, kl_n, kl_i, kl_r, kl_o, inA_i, inA_s, inA_b, inA_z, inA_l, inA_0, inA_4, inA_5, inA_6, inA_7, inA_8, inA_9, inA_10, al_0, al_1, al_2, al_4, al_5, al_98, bsP_2, bsP_3, wr_same, wr_wr, wr_ne, up_same, up_ne, Nat.reduceAdd, Int.reduceAdd, Int.reduceSub, Int.reduceMul, Int.reduceLT, Int.reduceLE, Int.reduceEq, Int.reduceNeg, Int.reduceToNat, Nat.reduceLT, Nat.reduceLeDiff, Nat.reduceEqDiff, ↓reduceIte, true_and, and_true, not_true_eq_false, not_false_eq_true, eq_self, or_true, true_or, or_false, false_or, if_true, if_false, Int.toNat_natCast, w_ite, Nat.add_zero, reduceCtorEq, ne_eq, hc, hB, b1, s142, s83, hv]
        exact hQ'
    · rw [if_neg cx] at hQ
      have s146 := fun {d : Nat} {Q : XO → Hp → Prop} => sp_146x (d := d) (Q := Q) (S := S) (I := I) (L := L) (R := R) (G := G) (c := c) (v := x) (l := 0) (h := 5) hc hwg (by omega) hx.1 hx.2 (by decide) (by decide) (by decide) (by decide)
      simp (disch := omega) only [q_116_0, q_116_1, q_116_2, q_116_3, q_116_6, q_116_8, q_116_9, q_116_10, q_116_11, q_116_12, q_116_15, q_116_16, q_116_52, q_116_54, q_116_57, q_116_58, q_116_60, q_116_63, q_116_64, q_116_66, q_116_69, q_116_70, q_116_72, q_116_75, q_116_76, q_116_78, q_116_81, q_116_82, q_116_83, q_116_84, q_116_87, q_116_88, q_116_89, q_116_92, q_116_95, q_116_98, q_116_e, va_rf_s, bz_0, bz_1, bz_ok, bb_ok, Nat.add_assoc, w_lt, w_add, w_sub, w_mul, w_div, em_def, w_eq, w_inT, ↓ilt_t, ↓ilt_f, ↓ieq_t, ↓ieq_f, ntT, w_b, w_ix, kx_v, kx_n, kl_n, kl_i, kl_r, kl_o, inA_i, inA_s, inA_b, inA_z, inA_l, inA_0, inA_4, inA_5, inA_6, inA_7, inA_8, inA_9, inA_10, al_0, al_1, al_2, al_4, al_5, al_98, bsP_2, bsP_3, wr_same, wr_wr, wr_ne, up_same, up_ne, Nat.reduceAdd, Int.reduceAdd, Int.reduceSub, Int.reduceMul, Int.reduceLT, Int.reduceLE, Int.reduceEq, Int.reduceNeg, Int.reduceToNat, Nat.reduceLT, Nat.reduceLeDiff, Nat.reduceEqDiff, ↓reduceIte, true_and, and_true, not_true_eq_false, not_false_eq_true, eq_self, or_true, true_or, or_false, false_or, if_true, if_false, Int.toNat_natCast, w_ite, Nat.add_zero, reduceCtorEq, ne_eq, hc, s144, s146, kx_t hk]
      exact CK.wro h (Rem.refl h) hf.2 hQ
  · rw [if_neg cr] at hQ
    have s144 := fun {d : Nat} {Q : XO → Hp → Prop} => sp_144x (d := d) (Q := Q) h hl hq cr
    simp (disch := omega) only [q_116_0, q_116_1, q_116_2, q_116_3, q_116_6, q_116_8, q_116_9, q_116_10, q_116_11, q_116_12, q_116_15, q_116_16, q_116_52, q_116_54, q_116_57, q_116_58, q_116_60, q_116_63, q_116_64, q_116_66, q_116_69, q_116_70, q_116_72, q_116_75, q_116_76, q_116_78, q_116_81, q_116_82, q_116_83, q_116_84, q_116_87, q_116_88, q_116_89, q_116_92, q_116_95, q_116_98, q_116_e, va_rf_s, bz_0, bz_1, bz_ok, bb_ok, Nat.add_assoc, w_lt, w_add, w_sub, w_mul, w_div, em_def, w_eq, w_inT, ↓ilt_t, ↓ilt_f, ↓ieq_t, ↓ieq_f, ntT, w_b, w_ix, kx_v, kx_n, kl_n, kl_i, kl_r, kl_o, inA_i, inA_s, inA_b, inA_z, inA_l, inA_0, inA_4, inA_5, inA_6, inA_7, inA_8, inA_9, inA_10, al_0, al_1, al_2, al_4, al_5, al_98, bsP_2, bsP_3, wr_same, wr_wr, wr_ne, up_same, up_ne, Nat.reduceAdd, Int.reduceAdd, Int.reduceSub, Int.reduceMul, Int.reduceLT, Int.reduceLE, Int.reduceEq, Int.reduceNeg, Int.reduceToNat, Nat.reduceLT, Nat.reduceLeDiff, Nat.reduceEqDiff, ↓reduceIte, true_and, and_true, not_true_eq_false, not_false_eq_true, eq_self, or_true, true_or, or_false, false_or, if_true, if_false, Int.toNat_natCast, w_ite, Nat.add_zero, reduceCtorEq, ne_eq, hc, s144, kx_t hk]
    exact CK.mis h (Rem.refl h) hf.1 hQ
theorem sp_117 {l q i x : Int} (h : CR S I L R G c lo s) (hf : few s) (hl : B32 l) (hq : B32 q) (hi : B32 i) (hx : B32 x) (hQ : CK S I L R G c lo Q (outX (rItem s l q i x).1) (rItem s l q i x).2) : XC (d + 3) 117 [.ref c, .int (w l), .int (w q), .int (w i), .int (w x)] (mk S I L R G) Q := by
  have hc := h.1.1
  have hms := h.2.2.2.2.2.2.2.2.2.2.2.1
  have hwg := h.2.2.2.2.2.2.2.2.2.2.2.2.1
  have hk : t_han 117 = [] := rfl
  unfold rItem at hQ
  by_cases cr : isRl s l q
  · obtain ⟨r, r1, r2, r3⟩ := h.rule cr
    have s144 := fun {d : Nat} {Q : XO → Hp → Prop} => sp_144 (d := d) (Q := Q) h cr r1
    have g0 := r3.1
    have g6 : ((rlz s l).getD q.toNat rd0).2.2.2.2.length ≤ 6 := r3.2.2.2.2.2.2.2.2.2.2.2.2.2.2.2.2.2.1
    have s55 := fun {d : Nat} {Q : XO → Hp → Prop} => sp_55 (d := d) (Q := Q) (R := R) (G := G) r3
    by_cases ci : 0 ≤ i ∧ i < ((rlz s l).getD q.toNat rd0).2.2.2.2.length
    · rw [if_pos ⟨cr, ci⟩] at hQ
      have s145 := fun {d : Nat} {Q : XO → Hp → Prop} => sp_145 (d := d) (Q := Q) (S := S) (I := I) (L := L) (R := R) (G := G) (c := c) (v := i) (h := ((rlz s l).getD q.toNat rd0).2.2.2.2.length) ci hi.1 hi.2 (by omega) (by omega)
      have hin : i.toNat < ((rlz s l).getD q.toNat rd0).2.2.2.2.length := by omega
      have ei : i = (i.toNat : Int) := by omega
      have s57 := fun {d : Nat} {Q : XO → Hp → Prop} => sp_57 (d := d) (Q := Q) (R := R) (G := G) r3 hin
      have s58 := fun {d : Nat} {Q : XO → Hp → Prop} => sp_58 (d := d) (Q := Q) (R := R) (G := G) r3 hin
      rw [← ei] at s57 s58
      by_cases cx : 0 ≤ x ∧ x ≤ 1
      · rw [if_pos cx] at hQ
        have hQ' := CK.ask h (Rem.refl h) hQ
        dsimp only at hQ'
        have s146 := fun {d : Nat} {Q : XO → Hp → Prop} => sp_146 (d := d) (Q := Q) (S := S) (I := I) (L := L) (R := R) (G := G) (c := c) (v := x) (l := 0) (h := 1) cx hx.1 hx.2 (by decide) (by decide) (by decide) (by decide)
        by_cases c0 : x = 0
        · rw [if_pos c0] at hQ'
          simp (disch := omega) only [q_117_0, q_117_1, q_117_2, q_117_3, q_117_6, q_117_8, q_117_9, q_117_10, q_117_12, q_117_15, q_117_18, q_117_19, q_117_21, q_117_22, q_117_23, q_117_26, q_117_28, q_117_31, q_117_33, q_117_34, q_117_37, q_117_40, q_117_42, q_117_43, q_117_46, q_117_e, va_rf_s, bz_0, bz_1, bz_ok, bb_ok, Nat.add_assoc, w_lt, w_add, w_sub, w_mul, w_div, em_def, w_eq, w_inT, ↓ilt_t, ↓ilt_f, ↓ieq_t, ↓ieq_f, ntT, w_b, w_ix, kx_v, kx_n, kl_n, kl_i, kl_r, kl_o, inA_i, inA_s, inA_b, inA_z, inA_l, inA_0, inA_4, inA_5, inA_6, inA_7, inA_8, inA_9, inA_10, al_0, al_1, al_2, al_4, al_5, al_98, bsP_2, bsP_3, wr_same, wr_wr, wr_ne, up_same, up_ne, Nat.reduceAdd, Int.reduceAdd, Int.reduceSub, Int.reduceMul, Int.reduceLT, Int.reduceLE, Int.reduceEq, Int.reduceNeg, Int.reduceToNat, Nat.reduceLT, Nat.reduceLeDiff, Nat.reduceEqDiff, ↓reduceIte, true_and, and_true, not_true_eq_false, not_false_eq_true, eq_self, or_true, true_or, or_false, false_or, if_true, if_false, Int.toNat_natCast, w_ite, Nat.add_zero, reduceCtorEq, ne_eq, hc, s144, s55, s145, s146, g0, s57]
          exact hQ'
        · rw [if_neg c0] at hQ'
          simp (disch := omega) only [q_117_0, q_117_1, q_117_2, q_117_3, q_117_6, q_117_8, q_117_9, q_117_10, q_117_12, q_117_15, q_117_18, q_117_19, q_117_21, q_117_22, q_117_23, q_117_26, q_117_28, q_117_31, q_117_33, q_117_34, q_117_37, q_117_40, q_117_42, q_117_43, q_117_46, q_117_e, va_rf_s, bz_0, bz_1, bz_ok, bb_ok, Nat.add_assoc, w_lt, w_add, w_sub, w_mul, w_div, em_def, w_eq, w_inT, ↓ilt_t, ↓ilt_f, ↓ieq_t, ↓ieq_f, ntT, w_b, w_ix, kx_v, kx_n, kl_n, kl_i, kl_r, kl_o, inA_i, inA_s, inA_b, inA_z, inA_l, inA_0, inA_4, inA_5, inA_6, inA_7, inA_8, inA_9, inA_10, al_0, al_1, al_2, al_4, al_5, al_98, bsP_2, bsP_3, wr_same, wr_wr, wr_ne, up_same, up_ne, Nat.reduceAdd, Int.reduceAdd, Int.reduceSub, Int.reduceMul, Int.reduceLT, Int.reduceLE, Int.reduceEq, Int.reduceNeg, Int.reduceToNat, Nat.reduceLT, Nat.reduceLeDiff, Nat.reduceEqDiff, ↓reduceIte, true_and, and_true, not_true_eq_false, not_false_eq_true, eq_self, or_true, true_or, or_false, false_or, if_true, if_false, Int.toNat_natCast, w_ite, Nat.add_zero, reduceCtorEq, ne_eq, hc, s144, s55, s145, s146, g0, s58]
          exact hQ'
      · rw [if_neg cx] at hQ
        have s146 := fun {d : Nat} {Q : XO → Hp → Prop} => sp_146x (d := d) (Q := Q) (S := S) (I := I) (L := L) (R := R) (G := G) (c := c) (v := x) (l := 0) (h := 1) hc hwg (by omega) hx.1 hx.2 (by decide) (by decide) (by decide) (by decide)
        simp (disch := omega) only [q_117_0, q_117_1, q_117_2, q_117_3, q_117_6, q_117_8, q_117_9, q_117_10, q_117_12, q_117_15, q_117_18, q_117_19, q_117_21, q_117_22, q_117_23, q_117_26, q_117_28, q_117_31, q_117_33, q_117_34, q_117_37, q_117_40, q_117_42, q_117_43, q_117_46, q_117_e, va_rf_s, bz_0, bz_1, bz_ok, bb_ok, Nat.add_assoc, w_lt, w_add, w_sub, w_mul, w_div, em_def, w_eq, w_inT, ↓ilt_t, ↓ilt_f, ↓ieq_t, ↓ieq_f, ntT, w_b, w_ix, kx_v, kx_n, kl_n, kl_i, kl_r, kl_o, inA_i, inA_s, inA_b, inA_z, inA_l, inA_0, inA_4, inA_5, inA_6, inA_7, inA_8, inA_9, inA_10, al_0, al_1, al_2, al_4, al_5, al_98, bsP_2, bsP_3, wr_same, wr_wr, wr_ne, up_same, up_ne, Nat.reduceAdd, Int.reduceAdd, Int.reduceSub, Int.reduceMul, Int.reduceLT, Int.reduceLE, Int.reduceEq, Int.reduceNeg, Int.reduceToNat, Nat.reduceLT, Nat.reduceLeDiff, Nat.reduceEqDiff, ↓reduceIte, true_and, and_true, not_true_eq_false, not_false_eq_true, eq_self, or_true, true_or, or_false, false_or, if_true, if_false, Int.toNat_natCast, w_ite, Nat.add_zero, reduceCtorEq, ne_eq, hc, s144, s55, s145, s146, g0, kx_t hk]
        exact CK.wro h (Rem.refl h) hf.2 hQ
    · rw [if_neg (fun h => ci h.2)] at hQ
      have s145 := fun {d : Nat} {Q : XO → Hp → Prop} => sp_145x (d := d) (Q := Q) (S := S) (I := I) (L := L) (R := R) (G := G) (c := c) (v := i) (h := ((rlz s l).getD q.toNat rd0).2.2.2.2.length) hc hms (by omega) hi.1 hi.2 (by omega) (by omega)
      simp (disch := omega) only [q_117_0, q_117_1, q_117_2, q_117_3, q_117_6, q_117_8, q_117_9, q_117_10, q_117_12, q_117_15, q_117_18, q_117_19, q_117_21, q_117_22, q_117_23, q_117_26, q_117_28, q_117_31, q_117_33, q_117_34, q_117_37, q_117_40, q_117_42, q_117_43, q_117_46, q_117_e, va_rf_s, bz_0, bz_1, bz_ok, bb_ok, Nat.add_assoc, w_lt, w_add, w_sub, w_mul, w_div, em_def, w_eq, w_inT, ↓ilt_t, ↓ilt_f, ↓ieq_t, ↓ieq_f, ntT, w_b, w_ix, kx_v, kx_n, kl_n, kl_i, kl_r, kl_o, inA_i, inA_s, inA_b, inA_z, inA_l, inA_0, inA_4, inA_5, inA_6, inA_7, inA_8, inA_9, inA_10, al_0, al_1, al_2, al_4, al_5, al_98, bsP_2, bsP_3, wr_same, wr_wr, wr_ne, up_same, up_ne, Nat.reduceAdd, Int.reduceAdd, Int.reduceSub, Int.reduceMul, Int.reduceLT, Int.reduceLE, Int.reduceEq, Int.reduceNeg, Int.reduceToNat, Nat.reduceLT, Nat.reduceLeDiff, Nat.reduceEqDiff, ↓reduceIte, true_and, and_true, not_true_eq_false, not_false_eq_true, eq_self, or_true, true_or, or_false, false_or, if_true, if_false, Int.toNat_natCast, w_ite, Nat.add_zero, reduceCtorEq, ne_eq, hc, s144, s55, s145, g0, kx_t hk]
      exact CK.mis h (Rem.refl h) hf.1 hQ
  · rw [if_neg (fun h => cr h.1)] at hQ
    have s144 := fun {d : Nat} {Q : XO → Hp → Prop} => sp_144x (d := d) (Q := Q) h hl hq cr
    simp (disch := omega) only [q_117_0, q_117_1, q_117_2, q_117_3, q_117_6, q_117_8, q_117_9, q_117_10, q_117_12, q_117_15, q_117_18, q_117_19, q_117_21, q_117_22, q_117_23, q_117_26, q_117_28, q_117_31, q_117_33, q_117_34, q_117_37, q_117_40, q_117_42, q_117_43, q_117_46, q_117_e, va_rf_s, bz_0, bz_1, bz_ok, bb_ok, Nat.add_assoc, w_lt, w_add, w_sub, w_mul, w_div, em_def, w_eq, w_inT, ↓ilt_t, ↓ilt_f, ↓ieq_t, ↓ieq_f, ntT, w_b, w_ix, kx_v, kx_n, kl_n, kl_i, kl_r, kl_o, inA_i, inA_s, inA_b, inA_z, inA_l, inA_0, inA_4, inA_5, inA_6, inA_7, inA_8, inA_9, inA_10, al_0, al_1, al_2, al_4, al_5, al_98, bsP_2, bsP_3, wr_same, wr_wr, wr_ne, up_same, up_ne, Nat.reduceAdd, Int.reduceAdd, Int.reduceSub, Int.reduceMul, Int.reduceLT, Int.reduceLE, Int.reduceEq, Int.reduceNeg, Int.reduceToNat, Nat.reduceLT, Nat.reduceLeDiff, Nat.reduceEqDiff, ↓reduceIte, true_and, and_true, not_true_eq_false, not_false_eq_true, eq_self, or_true, true_or, or_false, false_or, if_true, if_false, Int.toNat_natCast, w_ite, Nat.add_zero, reduceCtorEq, ne_eq, hc, s144, kx_t hk]
    exact CK.mis h (Rem.refl h) hf.1 hQ
end

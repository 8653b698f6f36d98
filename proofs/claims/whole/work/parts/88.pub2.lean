/-! the class's calls: rule, item -/
section
variable {d : Nat} {Q : XO → Hp → Prop} {S : SH} {I : MI} {L : ML} {R : MR} {G : MG} {A : Hp}
variable {c lo : Nat} {s : St}
theorem CR.rule (h : CR S I L R G c lo s) {l q : Int} (hr : isRl s l q) : ∃ r, R (c + 4) (l.toNat * 30 + q.toNat) = some r ∧ lo ≤ r ∧ RuleAt S I L r ((rlz s l).getD q.toNat rd0) := by
  have h1 := (h.2.2.2.2.1.2.2.2 l.toNat (by omega)).2.2 q.toNat (by have := hr.2; unfold rlz at this; omega)
  obtain ⟨r, r1, r2, r3⟩ := h1
  exact ⟨r, r1, r2, r3⟩
theorem sp_144 {l q : Int} {r : Nat} (h : CR S I L R G c lo s) (hr : isRl s l q) (hrr : R (c + 4) (l.toNat * 30 + q.toNat) = some r) : XC (d + 2) 144 [.ref c, .int (w l), .int (w q)] (mk S I L R G) Q ↔ Q (.inl (some (.ref r))) (mk S I L R G) := by
  have hc := h.1.1
  have hm : l.toNat < 2 := by omega
  obtain ⟨b1, b2, b3, b4⟩ := h.bk
  have el : l = (l.toNat : Int) := by omega
  have eq : q = (q.toNat : Int) := by omega
  have s143 := fun {d : Nat} {Q : XO → Hp → Prop} => sp_143 (d := d) (Q := Q) (S := S) (I := I) (L := L) (R := R) (G := G) (c := c) hm hc
  have hlen : q.toNat < (s.2.1.2 l.toNat).length := by have := hr.2; unfold rlz at this; omega
  have s2 := fun {d : Nat} {Q : XO → Hp → Prop} => sp_2 (d := d) (Q := Q) (I := I) (L := L) (R := R) (G := G) h.1.2.2.1 hm (b4 _ hm).1 (b4 _ hm).2 hlen (by show R (c + 4) _ = _; exact hrr)
  rw [← el] at s143 s2
  rw [← eq] at s2
  have hB := h.1.2.2.1.1
  simp (disch := omega) only [q_144_0, q_144_1, q_144_2, q_144_5, q_144_6, q_144_9, q_144_10, q_144_11, q_144_14, q_144_14o, q_144_15, q_144_15o, q_144_16o, q_144_16, q_144_19, q_144_20, q_144_21, q_144_24, q_144_25, q_144_26, q_144_29, q_144_40, q_144_40o, q_144_41, q_144_41o, q_144_e, va_rf_s, bz_0, bz_1, bz_ok, bb_ok, Nat.add_assoc, w_lt, w_add, w_sub, w_mul, w_div, em_def, w_eq, w_inT, ↓ilt_t, ↓ilt_f, ↓ieq_t, ↓ieq_f, ntT, w_b, w_ix, kx_v, kx_n, kl_n, kl_i, kl_r, kl_o, inA_i, inA_s, inA_b, inA_z, inA_l, inA_0, inA_4, inA_5, inA_6, inA_7, inA_8, inA_9, inA_10, al_0, al_1, al_2, al_4, al_5, al_98, bsP_2, bsP_3, wr_same, wr_wr, wr_ne, up_same, up_ne, Nat.reduceAdd, Int.reduceAdd, Int.reduceSub, Int.reduceMul, Int.reduceLT, Int.reduceLE, Int.reduceEq, Int.reduceNeg, Int.reduceToNat, Nat.reduceLT, Nat.reduceLeDiff, Nat.reduceEqDiff, ↓reduceIte, true_and, and_true, not_true_eq_false, not_false_eq_true, eq_self, or_true, true_or, or_false, false_or, if_true, if_false, Int.toNat_natCast, w_ite, Nat.add_zero, reduceCtorEq, ne_eq, hc, s143, s2, hB]
theorem sp_144x {l q : Int} (h : CR S I L R G c lo s) (hl : B32 l) (hq : B32 q) (hr : ¬ isRl s l q) : XC (d + 2) 144 [.ref c, .int (w l), .int (w q)] (mk S I L R G) Q ↔ Q (.inr 0) (mk S (wr I c (up (I c) 11 (w (s.2.2.2.2.1 + 1 : Nat)))) L R (G.1 + 1, G.2.1 + 6, G.2.2)) := by
  have hc := h.1.1
  have hms := h.2.2.2.2.2.2.2.2.2.2.2.1
  have hk : t_han 144 = [] := rfl
  obtain ⟨b1, b2, b3, b4⟩ := h.bk
  by_cases cl : inL l
  · have hm : l.toNat < 2 := by omega
    have el : l = (l.toNat : Int) := by omega
    have s143 := fun {d : Nat} {Q : XO → Hp → Prop} => sp_143 (d := d) (Q := Q) (S := S) (I := I) (L := L) (R := R) (G := G) (c := c) hm hc
    have s2 := fun {d : Nat} {Q : XO → Hp → Prop} => sp_2n (d := d) (Q := Q) (I := I) (L := L) (R := R) (G := G) (i := q) h.1.2.2.1 hm (b4 _ hm).1 (b4 _ hm).2 hq.1 hq.2 (by
      apply Classical.byContradiction
      intro hn
      exact hr ⟨cl, by unfold rlz; omega⟩)
    rw [← el] at s143 s2
    have hB := h.1.2.2.1.1
    have hn : (Value.null) = va_rf none := rfl
    simp only [Int.natCast_add, Int.natCast_one]
    simp (disch := omega) only [q_144_0, q_144_1, q_144_2, q_144_5, q_144_6, q_144_9, q_144_10, q_144_11, q_144_14, q_144_14o, q_144_15, q_144_15o, q_144_16o, q_144_16, q_144_19, q_144_20, q_144_21, q_144_24, q_144_25, q_144_26, q_144_29, q_144_40, q_144_40o, q_144_41, q_144_41o, q_144_e, va_rf_s, bz_0, bz_1, bz_ok, bb_ok, Nat.add_assoc, w_lt, w_add, w_sub, w_mul, w_div, em_def, w_eq, w_inT, ↓ilt_t, ↓ilt_f, ↓ieq_t, ↓ieq_f, ntT, w_b, w_ix, kx_v, kx_n, kl_n, kl_i, kl_r, kl_o, inA_i, inA_s, inA_b, inA_z, inA_l, inA_0, inA_4, inA_5, inA_6, inA_7, inA_8, inA_9, inA_10, al_0, al_1, al_2, al_4, al_5, al_98, bsP_2, bsP_3, wr_same, wr_wr, wr_ne, up_same, up_ne, Nat.reduceAdd, Int.reduceAdd, Int.reduceSub, Int.reduceMul, Int.reduceLT, Int.reduceLE, Int.reduceEq, Int.reduceNeg, Int.reduceToNat, Nat.reduceLT, Nat.reduceLeDiff, Nat.reduceEqDiff, ↓reduceIte, true_and, and_true, not_true_eq_false, not_false_eq_true, eq_self, or_true, true_or, or_false, false_or, if_true, if_false, Int.toNat_natCast, w_ite, Nat.add_zero, reduceCtorEq, ne_eq, hc, s143, s2, hB, hms]
    simp (disch := omega) only [hn, q_144_0, q_144_1, q_144_2, q_144_5, q_144_6, q_144_9, q_144_10, q_144_11, q_144_14, q_144_14o, q_144_15, q_144_15o, q_144_16o, q_144_16, q_144_19, q_144_20, q_144_21, q_144_24, q_144_25, q_144_26, q_144_29, q_144_40, q_144_40o, q_144_41, q_144_41o, q_144_e, va_rf_s, bz_0, bz_1, bz_ok, bb_ok, Nat.add_assoc, w_lt, w_add, w_sub, w_mul, w_div, em_def, w_eq, w_inT, ↓ilt_t, ↓ilt_f, ↓ieq_t, ↓ieq_f, ntT, w_b, w_ix, kx_v, kx_n, kl_n, kl_i, kl_r, kl_o, inA_i, inA_s, inA_b, inA_z, inA_l, inA_0, inA_4, inA_5, inA_6, inA_7, inA_8, inA_9, inA_10, al_0, al_1, al_2, al_4, al_5, al_98, bsP_2, bsP_3, wr_same, wr_wr, wr_ne, up_same, up_ne, Nat.reduceAdd, Int.reduceAdd, Int.reduceSub, Int.reduceMul, Int.reduceLT, Int.reduceLE, Int.reduceEq, Int.reduceNeg, Int.reduceToNat, Nat.reduceLT, Nat.reduceLeDiff, Nat.reduceEqDiff, ↓reduceIte, true_and, and_true, not_true_eq_false, not_false_eq_true, eq_self, or_true, true_or, or_false, false_or, if_true, if_false, Int.toNat_natCast, w_ite, Nat.add_zero, reduceCtorEq, ne_eq, hc, hms]
  · have s143 := fun {d : Nat} {Q : XO → Hp → Prop} => sp_143x (d := d) (Q := Q) (S := S) (I := I) (L := L) (R := R) (G := G) (c := c) (v := l) hc hms (by omega) hl.1 hl.2
    simp (disch := omega) only [q_144_0, q_144_1, q_144_2, q_144_5, q_144_6, q_144_9, q_144_10, q_144_11, q_144_14, q_144_14o, q_144_15, q_144_15o, q_144_16o, q_144_16, q_144_19, q_144_20, q_144_21, q_144_24, q_144_25, q_144_26, q_144_29, q_144_40, q_144_40o, q_144_41, q_144_41o, q_144_e, va_rf_s, bz_0, bz_1, bz_ok, bb_ok, Nat.add_assoc, w_lt, w_add, w_sub, w_mul, w_div, em_def, w_eq, w_inT, ↓ilt_t, ↓ilt_f, ↓ieq_t, ↓ieq_f, ntT, w_b, w_ix, kx_v, kx_n, kl_n, kl_i, kl_r, kl_o, inA_i, inA_s, inA_b, inA_z, inA_l, inA_0, inA_4, inA_5, inA_6, inA_7, inA_8, inA_9, inA_10, al_0, al_1, al_2, al_4, al_5, al_98, bsP_2, bsP_3, wr_same, wr_wr, wr_ne, up_same, up_ne, Nat.reduceAdd, Int.reduceAdd, Int.reduceSub, Int.reduceMul, Int.reduceLT, Int.reduceLE, Int.reduceEq, Int.reduceNeg, Int.reduceToNat, Nat.reduceLT, Nat.reduceLeDiff, Nat.reduceEqDiff, ↓reduceIte, true_and, and_true, not_true_eq_false, not_false_eq_true, eq_self, or_true, true_or, or_false, false_or, if_true, if_false, Int.toNat_natCast, w_ite, Nat.add_zero, reduceCtorEq, ne_eq, hc, s143, kx_t hk]
end

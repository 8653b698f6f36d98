/-! the model's reader: small methods -/
def PM (I : MI) (m : Nat) (t : List Int) (p : Nat) (e : Int × Int) : Prop := I m 3 = w t.length ∧ Txt (I (m + 2)) 0 t ∧ t.length ≤ 400 ∧ (∀ b ∈ t, 0 ≤ b ∧ b < 256) ∧ I m 4 = w p ∧ p ≤ t.length ∧ I m 6 = w e.1 ∧ I m 7 = w e.2 ∧ 0 ≤ e.1 ∧ e.1 ≤ 4
def PmF (I I' : MI) (m : Nat) : Prop := (∀ x, x ≠ m → I' x = I x) ∧ (∀ j, j ≠ 4 → j ≠ 6 → j ≠ 7 → I' m j = I m j)
theorem PmF.refl {I : MI} {m : Nat} : PmF I I m := ⟨fun _ _ => rfl, fun _ _ _ _ => rfl⟩
theorem PmF.trans {I I1 I2 : MI} {m : Nat} (h : PmF I I1 m) (h' : PmF I1 I2 m) : PmF I I2 m := ⟨fun x h1 => (h'.1 x h1).trans (h.1 x h1), fun j a b c => (h'.2 j a b c).trans (h.2 j a b c)⟩
theorem PM.set {I I' : MI} {m : Nat} {t : List Int} {p p' : Nat} {e e' : Int × Int} (h : PM I m t p e) (hF : PmF I I' m) (h4 : I' m 4 = w p') (hp : p' ≤ t.length) (h6 : I' m 6 = w e'.1) (h7 : I' m 7 = w e'.2) (he : 0 ≤ e'.1 ∧ e'.1 ≤ 4) : PM I' m t p' e' := by
  obtain ⟨a1, a2, a3, a4, a5, a6, a7, a8, a9⟩ := h
  exact ⟨by rw [hF.2 3 (by decide) (by decide) (by decide)]; exact a1, by rw [hF.1 _ (by omega)]; exact a2, a3, a4, h4, hp, h6, h7, he⟩
theorem PM.mv {I : MI} {m : Nat} {t : List Int} {p q : Nat} {e : Int × Int} (h : PM I m t p e) (hq : q ≤ t.length) : PmF I (wr I m (up (I m) 4 (w q))) m ∧ PM (wr I m (up (I m) 4 (w q))) m t q e := by
  have hF : PmF I (wr I m (up (I m) 4 (w q))) m := ⟨fun x hx => wr_ne hx, fun j j1 j2 j3 => by rw [wr_same, up_ne j1]⟩
  refine ⟨hF, h.set hF (by rw [wr_same, up_same]) hq ?_ ?_ ⟨h.2.2.2.2.2.2.2.2.1, h.2.2.2.2.2.2.2.2.2⟩⟩
  · rw [wr_same, up_ne (by decide)]; exact h.2.2.2.2.2.2.1
  · rw [wr_same, up_ne (by decide)]; exact h.2.2.2.2.2.2.2.1
theorem PM.bd {I : MI} {m : Nat} {t : List Int} {p : Nat} {e : Int × Int} (h : PM I m t p e) (k : Nat) : -1 ≤ bt t k ∧ bt t k < 256 := by
  unfold bt
  split
  · rename_i hk
    have := h.2.2.2.1 (t.getD k 0) (by rw [List.getD_eq_getElem?_getD, List.getElem?_eq_getElem hk]; exact List.getElem_mem hk)
    omega
  · omega
section
variable {d : Nat} {Q : XO → Hp → Prop} {S : SH} {I : MI} {L : ML} {R : MR} {G : MG} {A : Hp}
variable {m : Nat} {t : List Int}
theorem sp_158 {p k : Nat} {e : Int × Int} (hL : MLay S R m) (h : PM I m t p e) (hk : k ≤ 1000) : XC d 158 [.ref m, .int (w k)] (mk S I L R G) Q ↔ Q (.inl (some (.int (w (bt t k))))) (mk S I L R G) := by
  have hm := hL.1
  have h2 := hL.2.2.1
  obtain ⟨a1, a2, a3, a4, -⟩ := h
  unfold bt
  by_cases c : k < t.length
  · have ec := a2 k c
    rw [Nat.zero_add] at ec
    rw [if_pos c]
    simp (disch := omega) only [q_158_0, q_158_1, q_158_2, q_158_5, q_158_8, q_158_9, q_158_12, q_158_13, q_158_16, q_158_17, q_158_18, q_158_e, va_rf_s, bz_0, bz_1, bz_ok, bb_ok, Nat.add_assoc, w_lt, w_add, w_sub, w_mul, w_div, em_def, w_eq, w_inT, ↓ilt_t, ↓ilt_f, ↓ieq_t, ↓ieq_f, ntT, w_b, w_ix, kx_v, kx_n, kl_n, kl_i, kl_r, kl_o, inA_i, inA_s, inA_b, inA_z, inA_l, inA_0, inA_4, inA_5, inA_6, inA_7, inA_8, inA_9, inA_10, al_0, al_1, al_2, al_4, al_5, al_98, bsP_2, bsP_3, wr_same, wr_wr, wr_ne, up_same, up_ne, Nat.reduceAdd, Int.reduceAdd, Int.reduceSub, Int.reduceMul, Int.reduceLT, Int.reduceLE, Int.reduceEq, Int.reduceNeg, Int.reduceToNat, Nat.reduceLT, Nat.reduceLeDiff, Nat.reduceEqDiff, ↓reduceIte, true_and, and_true, not_true_eq_false, not_false_eq_true, eq_self, or_true, true_or, or_false, false_or, if_true, if_false, Int.toNat_natCast, w_ite, Nat.add_zero, reduceCtorEq, ne_eq, hm, a1, h2, ec]
  · rw [if_neg c]
    simp (disch := omega) only [q_158_0, q_158_1, q_158_2, q_158_5, q_158_8, q_158_9, q_158_12, q_158_13, q_158_16, q_158_17, q_158_18, q_158_e, va_rf_s, bz_0, bz_1, bz_ok, bb_ok, Nat.add_assoc, w_lt, w_add, w_sub, w_mul, w_div, em_def, w_eq, w_inT, ↓ilt_t, ↓ilt_f, ↓ieq_t, ↓ieq_f, ntT, w_b, w_ix, kx_v, kx_n, kl_n, kl_i, kl_r, kl_o, inA_i, inA_s, inA_b, inA_z, inA_l, inA_0, inA_4, inA_5, inA_6, inA_7, inA_8, inA_9, inA_10, al_0, al_1, al_2, al_4, al_5, al_98, bsP_2, bsP_3, wr_same, wr_wr, wr_ne, up_same, up_ne, Nat.reduceAdd, Int.reduceAdd, Int.reduceSub, Int.reduceMul, Int.reduceLT, Int.reduceLE, Int.reduceEq, Int.reduceNeg, Int.reduceToNat, Nat.reduceLT, Nat.reduceLeDiff, Nat.reduceEqDiff, ↓reduceIte, true_and, and_true, not_true_eq_false, not_false_eq_true, eq_self, or_true, true_or, or_false, false_or, if_true, if_false, Int.toNat_natCast, w_ite, Nat.add_zero, reduceCtorEq, ne_eq, hm, a1]
theorem sp_162 {x : Int} (h1 : -2147483648 ≤ x) (h2 : x < 2147483648) : XC d 162 [.int (w x)] A Q ↔ Q (.inl (some (.int (bz (isd x))))) A := by
  unfold isd
  by_cases c1 : 48 ≤ x
  · by_cases c2 : x ≤ 57
    · rw [decide_eq_true c1, decide_eq_true c2]
      simp (disch := omega) only [q_162_0, q_162_1, q_162_3, q_162_6, q_162_7, q_162_9, q_162_12, q_162_13, q_162_16, q_162_17, q_162_e, va_rf_s, bz_0, bz_1, bz_ok, bb_ok, Nat.add_assoc, w_lt, w_add, w_sub, w_mul, w_div, em_def, w_eq, w_inT, ↓ilt_t, ↓ilt_f, ↓ieq_t, ↓ieq_f, ntT, w_b, w_ix, kx_v, kx_n, kl_n, kl_i, kl_r, kl_o, inA_i, inA_s, inA_b, inA_z, inA_l, inA_0, inA_4, inA_5, inA_6, inA_7, inA_8, inA_9, inA_10, al_0, al_1, al_2, al_4, al_5, al_98, bsP_2, bsP_3, wr_same, wr_wr, wr_ne, up_same, up_ne, Nat.reduceAdd, Int.reduceAdd, Int.reduceSub, Int.reduceMul, Int.reduceLT, Int.reduceLE, Int.reduceEq, Int.reduceNeg, Int.reduceToNat, Nat.reduceLT, Nat.reduceLeDiff, Nat.reduceEqDiff, ↓reduceIte, true_and, and_true, not_true_eq_false, not_false_eq_true, eq_self, or_true, true_or, or_false, false_or, if_true, if_false, Int.toNat_natCast, w_ite, Nat.add_zero, reduceCtorEq, ne_eq]
      exact Iff.rfl
    · rw [decide_eq_true c1, decide_eq_false c2]
      simp (disch := omega) only [q_162_0, q_162_1, q_162_3, q_162_6, q_162_7, q_162_9, q_162_12, q_162_13, q_162_16, q_162_17, q_162_e, va_rf_s, bz_0, bz_1, bz_ok, bb_ok, Nat.add_assoc, w_lt, w_add, w_sub, w_mul, w_div, em_def, w_eq, w_inT, ↓ilt_t, ↓ilt_f, ↓ieq_t, ↓ieq_f, ntT, w_b, w_ix, kx_v, kx_n, kl_n, kl_i, kl_r, kl_o, inA_i, inA_s, inA_b, inA_z, inA_l, inA_0, inA_4, inA_5, inA_6, inA_7, inA_8, inA_9, inA_10, al_0, al_1, al_2, al_4, al_5, al_98, bsP_2, bsP_3, wr_same, wr_wr, wr_ne, up_same, up_ne, Nat.reduceAdd, Int.reduceAdd, Int.reduceSub, Int.reduceMul, Int.reduceLT, Int.reduceLE, Int.reduceEq, Int.reduceNeg, Int.reduceToNat, Nat.reduceLT, Nat.reduceLeDiff, Nat.reduceEqDiff, ↓reduceIte, true_and, and_true, not_true_eq_false, not_false_eq_true, eq_self, or_true, true_or, or_false, false_or, if_true, if_false, Int.toNat_natCast, w_ite, Nat.add_zero, reduceCtorEq, ne_eq]
      exact Iff.rfl
  · rw [decide_eq_false c1, Bool.false_and]
    simp (disch := omega) only [q_162_0, q_162_1, q_162_3, q_162_6, q_162_7, q_162_9, q_162_12, q_162_13, q_162_16, q_162_17, q_162_e, va_rf_s, bz_0, bz_1, bz_ok, bb_ok, Nat.add_assoc, w_lt, w_add, w_sub, w_mul, w_div, em_def, w_eq, w_inT, ↓ilt_t, ↓ilt_f, ↓ieq_t, ↓ieq_f, ntT, w_b, w_ix, kx_v, kx_n, kl_n, kl_i, kl_r, kl_o, inA_i, inA_s, inA_b, inA_z, inA_l, inA_0, inA_4, inA_5, inA_6, inA_7, inA_8, inA_9, inA_10, al_0, al_1, al_2, al_4, al_5, al_98, bsP_2, bsP_3, wr_same, wr_wr, wr_ne, up_same, up_ne, Nat.reduceAdd, Int.reduceAdd, Int.reduceSub, Int.reduceMul, Int.reduceLT, Int.reduceLE, Int.reduceEq, Int.reduceNeg, Int.reduceToNat, Nat.reduceLT, Nat.reduceLeDiff, Nat.reduceEqDiff, ↓reduceIte, true_and, and_true, not_true_eq_false, not_false_eq_true, eq_self, or_true, true_or, or_false, false_or, if_true, if_false, Int.toNat_natCast, w_ite, Nat.add_zero, reduceCtorEq, ne_eq]
    exact Iff.rfl
theorem sp_160t {p : Nat} (hL : MLay S R m) (h : PM I m t p (0, -1)) : XC d 160 [.ref m] (mk S I L R G) Q ↔ Q (.inl (some (.int (w 1)))) (mk S I L R G) := by
  have hm := hL.1
  have h6 : I m 6 = w 0 := h.2.2.2.2.2.2.1
  simp (disch := omega) only [q_160_0, q_160_1, q_160_4, q_160_7, q_160_8, q_160_11, q_160_12, q_160_e, va_rf_s, bz_0, bz_1, bz_ok, bb_ok, Nat.add_assoc, w_lt, w_add, w_sub, w_mul, w_div, em_def, w_eq, w_inT, ↓ilt_t, ↓ilt_f, ↓ieq_t, ↓ieq_f, ntT, w_b, w_ix, kx_v, kx_n, kl_n, kl_i, kl_r, kl_o, inA_i, inA_s, inA_b, inA_z, inA_l, inA_0, inA_4, inA_5, inA_6, inA_7, inA_8, inA_9, inA_10, al_0, al_1, al_2, al_4, al_5, al_98, bsP_2, bsP_3, wr_same, wr_wr, wr_ne, up_same, up_ne, Nat.reduceAdd, Int.reduceAdd, Int.reduceSub, Int.reduceMul, Int.reduceLT, Int.reduceLE, Int.reduceEq, Int.reduceNeg, Int.reduceToNat, Nat.reduceLT, Nat.reduceLeDiff, Nat.reduceEqDiff, ↓reduceIte, true_and, and_true, not_true_eq_false, not_false_eq_true, eq_self, or_true, true_or, or_false, false_or, if_true, if_false, Int.toNat_natCast, w_ite, Nat.add_zero, reduceCtorEq, ne_eq, hm, h6]
theorem sp_160f {p : Nat} {e : Int × Int} (hL : MLay S R m) (h : PM I m t p e) (he : e.1 ≠ 0) : XC d 160 [.ref m] (mk S I L R G) Q ↔ Q (.inl (some (.int (w 0)))) (mk S I L R G) := by
  have hm := hL.1
  obtain ⟨a1, a2, a3, a4, a5, a6, a7, a8, a9, a10⟩ := h
  simp (disch := omega) only [q_160_0, q_160_1, q_160_4, q_160_7, q_160_8, q_160_11, q_160_12, q_160_e, va_rf_s, bz_0, bz_1, bz_ok, bb_ok, Nat.add_assoc, w_lt, w_add, w_sub, w_mul, w_div, em_def, w_eq, w_inT, ↓ilt_t, ↓ilt_f, ↓ieq_t, ↓ieq_f, ntT, w_b, w_ix, kx_v, kx_n, kl_n, kl_i, kl_r, kl_o, inA_i, inA_s, inA_b, inA_z, inA_l, inA_0, inA_4, inA_5, inA_6, inA_7, inA_8, inA_9, inA_10, al_0, al_1, al_2, al_4, al_5, al_98, bsP_2, bsP_3, wr_same, wr_wr, wr_ne, up_same, up_ne, Nat.reduceAdd, Int.reduceAdd, Int.reduceSub, Int.reduceMul, Int.reduceLT, Int.reduceLE, Int.reduceEq, Int.reduceNeg, Int.reduceToNat, Nat.reduceLT, Nat.reduceLeDiff, Nat.reduceEqDiff, ↓reduceIte, true_and, and_true, not_true_eq_false, not_false_eq_true, eq_self, or_true, true_or, or_false, false_or, if_true, if_false, Int.toNat_natCast, w_ite, Nat.add_zero, reduceCtorEq, ne_eq, hm, a7]
theorem sp_161t {p q : Nat} {k : Int} (hL : MLay S R m) (h : PM I m t p (0, -1)) (hk : 1 ≤ k ∧ k ≤ 4)
    (hQ : ∀ I' : MI, PmF I I' m → PM I' m t p (k, (q : Int)) → Q (.inl none) (mk S I' L R G)) : XC d 161 [.ref m, .int (w k), .int (w q)] (mk S I L R G) Q := by
  have hm := hL.1
  have h6 : I m 6 = w 0 := h.2.2.2.2.2.2.1
  have hF : PmF I (wr I m (up (up (I m) 6 (w k)) 7 (w q))) m := ⟨fun x hx => wr_ne hx, fun j j1 j2 j3 => by rw [wr_same, up_ne j3, up_ne j2]⟩
  have := hQ _ hF (h.set hF (by rw [wr_same, up_ne (by decide), up_ne (by decide)]; exact h.2.2.2.2.1) h.2.2.2.2.2.1 (by rw [wr_same, up_ne (by decide), up_same]) (by rw [wr_same, up_same]) ⟨by dsimp only; omega, hk.2⟩)
  simp (disch := omega) only [q_161_0, q_161_1, q_161_4, q_161_7, q_161_8, q_161_9, q_161_12, q_161_13, q_161_14, q_161_17, q_161_e, va_rf_s, bz_0, bz_1, bz_ok, bb_ok, Nat.add_assoc, w_lt, w_add, w_sub, w_mul, w_div, em_def, w_eq, w_inT, ↓ilt_t, ↓ilt_f, ↓ieq_t, ↓ieq_f, ntT, w_b, w_ix, kx_v, kx_n, kl_n, kl_i, kl_r, kl_o, inA_i, inA_s, inA_b, inA_z, inA_l, inA_0, inA_4, inA_5, inA_6, inA_7, inA_8, inA_9, inA_10, al_0, al_1, al_2, al_4, al_5, al_98, bsP_2, bsP_3, wr_same, wr_wr, wr_ne, up_same, up_ne, Nat.reduceAdd, Int.reduceAdd, Int.reduceSub, Int.reduceMul, Int.reduceLT, Int.reduceLE, Int.reduceEq, Int.reduceNeg, Int.reduceToNat, Nat.reduceLT, Nat.reduceLeDiff, Nat.reduceEqDiff, ↓reduceIte, true_and, and_true, not_true_eq_false, not_false_eq_true, eq_self, or_true, true_or, or_false, false_or, if_true, if_false, Int.toNat_natCast, w_ite, Nat.add_zero, reduceCtorEq, ne_eq, hm, h6]
  exact this
theorem sp_161f {p : Nat} {e : Int × Int} {k q : Int32} (hL : MLay S R m) (h : PM I m t p e) (he : e.1 ≠ 0) : XC d 161 [.ref m, .int k, .int q] (mk S I L R G) Q ↔ Q (.inl none) (mk S I L R G) := by
  have hm := hL.1
  obtain ⟨a1, a2, a3, a4, a5, a6, a7, a8, a9, a10⟩ := h
  simp (disch := omega) only [q_161_0, q_161_1, q_161_4, q_161_7, q_161_8, q_161_9, q_161_12, q_161_13, q_161_14, q_161_17, q_161_e, va_rf_s, bz_0, bz_1, bz_ok, bb_ok, Nat.add_assoc, w_lt, w_add, w_sub, w_mul, w_div, em_def, w_eq, w_inT, ↓ilt_t, ↓ilt_f, ↓ieq_t, ↓ieq_f, ntT, w_b, w_ix, kx_v, kx_n, kl_n, kl_i, kl_r, kl_o, inA_i, inA_s, inA_b, inA_z, inA_l, inA_0, inA_4, inA_5, inA_6, inA_7, inA_8, inA_9, inA_10, al_0, al_1, al_2, al_4, al_5, al_98, bsP_2, bsP_3, wr_same, wr_wr, wr_ne, up_same, up_ne, Nat.reduceAdd, Int.reduceAdd, Int.reduceSub, Int.reduceMul, Int.reduceLT, Int.reduceLE, Int.reduceEq, Int.reduceNeg, Int.reduceToNat, Nat.reduceLT, Nat.reduceLeDiff, Nat.reduceEqDiff, ↓reduceIte, true_and, and_true, not_true_eq_false, not_false_eq_true, eq_self, or_true, true_or, or_false, false_or, if_true, if_false, Int.toNat_natCast, w_ite, Nat.add_zero, reduceCtorEq, ne_eq, hm, a7]
theorem sp_159 {p : Nat} {e : Int × Int} (hL : MLay S R m) (h : PM I m t p e)
    (hQ : ∀ I' : MI, PmF I I' m → PM I' m t (skb t p) e → Q (.inl (some (.int (w (bt t (skb t p)))))) (mk S I' L R G)) : XC (d + 1) 159 [.ref m] (mk S I L R G) Q := by
  have hm := hL.1
  have lp : ∀ (j q : Nat) (I1 : MI), q + j = t.length → PmF I I1 m → PM I1 m t q e → skb t q = skb t p → XX (d + 1) 159 0 [some (.ref m)] [] (mk S I1 L R G) Q := by
    intro j
    induction j with
    | zero =>
      intro q I1 hq hF h1 h4
      have e1 : q = skb t p := by rw [← h4]; exact (run_e (Or.inl (by omega))).symm
      have h40 := h1.2.2.1
      have s158 := fun {d : Nat} {Q : XO → Hp → Prop} => sp_158 (d := d) (Q := Q) (L := L) (G := G) hL h1 (k := q) (by omega)
      have := hQ I1 hF (by rw [← e1]; exact h1)
      rw [← e1] at this
      have eb : bt t q = -1 := by unfold bt; rw [if_neg (by omega)]
      have e4 := h1.2.2.2.2.1
      rw [eb] at this s158
      rw [q_159_0]
      simp (disch := omega) only [q_159_1, q_159_2, q_159_5, q_159_8, q_159_10, q_159_13, q_159_14, q_159_15, q_159_18, q_159_19, q_159_20, q_159_23, q_159_26, q_159_27, q_159_28, q_159_31, q_159_34, q_159_e, va_rf_s, bz_0, bz_1, bz_ok, bb_ok, Nat.add_assoc, w_lt, w_add, w_sub, w_mul, w_div, em_def, w_eq, w_inT, ↓ilt_t, ↓ilt_f, ↓ieq_t, ↓ieq_f, ntT, w_b, w_ix, kx_v, kx_n, kl_n, kl_i, kl_r, kl_o, inA_i, inA_s, inA_b, inA_z, inA_l, inA_0, inA_4, inA_5, inA_6, inA_7, inA_8, inA_9, inA_10, al_0, al_1, al_2, al_4, al_5, al_98, bsP_2, bsP_3, wr_same, wr_wr, wr_ne, up_same, up_ne, Nat.reduceAdd, Int.reduceAdd, Int.reduceSub, Int.reduceMul, Int.reduceLT, Int.reduceLE, Int.reduceEq, Int.reduceNeg, Int.reduceToNat, Nat.reduceLT, Nat.reduceLeDiff, Nat.reduceEqDiff, ↓reduceIte, true_and, and_true, not_true_eq_false, not_false_eq_true, eq_self, or_true, true_or, or_false, false_or, if_true, if_false, Int.toNat_natCast, w_ite, Nat.add_zero, reduceCtorEq, ne_eq, hm, e4, s158]
      exact this
    | succ j ih =>
      intro q I1 hq hF h1 h4
      have hql : q < t.length := by omega
      have h40 := h1.2.2.1
      have s158 := fun {d : Nat} {Q : XO → Hp → Prop} => sp_158 (d := d) (Q := Q) (L := L) (G := G) hL h1 (k := q) (by omega)
      have e4 := h1.2.2.2.2.1
      have hb := h1.bd q
      have eb : bt t q = t.getD q 0 := by unfold bt; rw [if_pos hql]
      by_cases c : t.getD q 0 = 32
      · obtain ⟨m1, m2⟩ := h1.mv (q := q + 1) (by omega)
        have := ih (q + 1) _ (by omega) (hF.trans m1) m2 (by rw [← h4]; exact (run_s hql (by unfold isb; rw [c]; rfl)).symm)
        simp only [Int.natCast_add, Int.natCast_one] at this
        rw [eb, c] at s158
        rw [q_159_0]
        simp (disch := omega) only [q_159_1, q_159_2, q_159_5, q_159_8, q_159_10, q_159_13, q_159_14, q_159_15, q_159_18, q_159_19, q_159_20, q_159_23, q_159_26, q_159_27, q_159_28, q_159_31, q_159_34, q_159_e, va_rf_s, bz_0, bz_1, bz_ok, bb_ok, Nat.add_assoc, w_lt, w_add, w_sub, w_mul, w_div, em_def, w_eq, w_inT, ↓ilt_t, ↓ilt_f, ↓ieq_t, ↓ieq_f, ntT, w_b, w_ix, kx_v, kx_n, kl_n, kl_i, kl_r, kl_o, inA_i, inA_s, inA_b, inA_z, inA_l, inA_0, inA_4, inA_5, inA_6, inA_7, inA_8, inA_9, inA_10, al_0, al_1, al_2, al_4, al_5, al_98, bsP_2, bsP_3, wr_same, wr_wr, wr_ne, up_same, up_ne, Nat.reduceAdd, Int.reduceAdd, Int.reduceSub, Int.reduceMul, Int.reduceLT, Int.reduceLE, Int.reduceEq, Int.reduceNeg, Int.reduceToNat, Nat.reduceLT, Nat.reduceLeDiff, Nat.reduceEqDiff, ↓reduceIte, true_and, and_true, not_true_eq_false, not_false_eq_true, eq_self, or_true, true_or, or_false, false_or, if_true, if_false, Int.toNat_natCast, w_ite, Nat.add_zero, reduceCtorEq, ne_eq, hm, e4, s158]
        exact this
      · have e1 : q = skb t p := by rw [← h4]; exact (run_e (Or.inr (by unfold isb; exact decide_eq_false c))).symm
        have := hQ I1 hF (by rw [← e1]; exact h1)
        rw [← e1] at this
        rw [eb] at this s158 hb
        rw [q_159_0]
        simp (disch := omega) only [q_159_1, q_159_2, q_159_5, q_159_8, q_159_10, q_159_13, q_159_14, q_159_15, q_159_18, q_159_19, q_159_20, q_159_23, q_159_26, q_159_27, q_159_28, q_159_31, q_159_34, q_159_e, va_rf_s, bz_0, bz_1, bz_ok, bb_ok, Nat.add_assoc, w_lt, w_add, w_sub, w_mul, w_div, em_def, w_eq, w_inT, ↓ilt_t, ↓ilt_f, ↓ieq_t, ↓ieq_f, ntT, w_b, w_ix, kx_v, kx_n, kl_n, kl_i, kl_r, kl_o, inA_i, inA_s, inA_b, inA_z, inA_l, inA_0, inA_4, inA_5, inA_6, inA_7, inA_8, inA_9, inA_10, al_0, al_1, al_2, al_4, al_5, al_98, bsP_2, bsP_3, wr_same, wr_wr, wr_ne, up_same, up_ne, Nat.reduceAdd, Int.reduceAdd, Int.reduceSub, Int.reduceMul, Int.reduceLT, Int.reduceLE, Int.reduceEq, Int.reduceNeg, Int.reduceToNat, Nat.reduceLT, Nat.reduceLeDiff, Nat.reduceEqDiff, ↓reduceIte, true_and, and_true, not_true_eq_false, not_false_eq_true, eq_self, or_true, true_or, or_false, false_or, if_true, if_false, Int.toNat_natCast, w_ite, Nat.add_zero, reduceCtorEq, ne_eq, hm, e4, s158]
        exact this
  have hp := h.2.2.2.2.2.1
  exact lp (t.length - p) p I (by omega) PmF.refl h rfl
theorem sp_165 {p : Nat} {e : Int × Int} (hL : MLay S R m) (h : PM I m t p e)
    (hQ : ∀ I' : MI, PmF I I' m → PM I' m t (skb t p) e → Q (.inl (some (.int (w (wde t (skb t p) - skb t p : Nat))))) (mk S I' L R G)) : XC (d + 2) 165 [.ref m] (mk S I L R G) Q := by
  have hm := hL.1
  simp (disch := omega) only [q_165_0, q_165_1, q_165_4, q_165_5, q_165_6, q_165_8, q_165_9, q_165_12, q_165_13, q_165_14, q_165_17, q_165_20, q_165_23, q_165_26, q_165_29, q_165_30, q_165_e, va_rf_s, bz_0, bz_1, bz_ok, bb_ok, Nat.add_assoc, w_lt, w_add, w_sub, w_mul, w_div, em_def, w_eq, w_inT, ↓ilt_t, ↓ilt_f, ↓ieq_t, ↓ieq_f, ntT, w_b, w_ix, kx_v, kx_n, kl_n, kl_i, kl_r, kl_o, inA_i, inA_s, inA_b, inA_z, inA_l, inA_0, inA_4, inA_5, inA_6, inA_7, inA_8, inA_9, inA_10, al_0, al_1, al_2, al_4, al_5, al_98, bsP_2, bsP_3, wr_same, wr_wr, wr_ne, up_same, up_ne, Nat.reduceAdd, Int.reduceAdd, Int.reduceSub, Int.reduceMul, Int.reduceLT, Int.reduceLE, Int.reduceEq, Int.reduceNeg, Int.reduceToNat, Nat.reduceLT, Nat.reduceLeDiff, Nat.reduceEqDiff, ↓reduceIte, true_and, and_true, not_true_eq_false, not_false_eq_true, eq_self, or_true, true_or, or_false, false_or, if_true, if_false, Int.toNat_natCast, w_ite, Nat.add_zero, reduceCtorEq, ne_eq, hm]
  refine sp_159 hL h (fun I1 hF h1 => ?_)
  have hQ' := hQ I1 hF h1
  clear hQ
  generalize hsk : skb t p = a at *
  have e4 := h1.2.2.2.2.1
  have ha := h1.2.2.2.2.2.1
  have h40 := h1.2.2.1
  have lp : ∀ (j i : Nat), a + i + j = t.length → wde t a = wde t (a + i) → XX (d + 2) 165 7 [some (.ref m), some (.int (w i))] [] (mk S I1 L R G) Q := by
    intro j
    induction j with
    | zero =>
      intro i hi he
      have s158 := fun {d : Nat} {Q : XO → Hp → Prop} => sp_158 (d := d) (Q := Q) (L := L) (G := G) hL h1 (k := a + i) (by omega)
      have eb : bt t (a + i) = -1 := by unfold bt; rw [if_neg (by omega)]
      have s163 := fun {d : Nat} {Q : XO → Hp → Prop} {A : Hp} => sp_163 (d := d) (Q := Q) (A := A) (x := -1) (by decide) (by decide)
      rw [show isl (-1) = false from rfl] at s163
      have ee : wde t (a + i) = a + i := run_e (Or.inl (by omega))
      rw [he, ee, Nat.add_sub_cancel_left] at hQ'
      rw [eb] at s158
      simp only [Int.natCast_add] at s158
      rw [q_165_7]
      simp (disch := omega) only [q_165_0, q_165_1, q_165_4, q_165_5, q_165_6, q_165_8, q_165_9, q_165_12, q_165_13, q_165_14, q_165_17, q_165_20, q_165_23, q_165_26, q_165_29, q_165_30, q_165_e, va_rf_s, bz_0, bz_1, bz_ok, bb_ok, Nat.add_assoc, w_lt, w_add, w_sub, w_mul, w_div, em_def, w_eq, w_inT, ↓ilt_t, ↓ilt_f, ↓ieq_t, ↓ieq_f, ntT, w_b, w_ix, kx_v, kx_n, kl_n, kl_i, kl_r, kl_o, inA_i, inA_s, inA_b, inA_z, inA_l, inA_0, inA_4, inA_5, inA_6, inA_7, inA_8, inA_9, inA_10, al_0, al_1, al_2, al_4, al_5, al_98, bsP_2, bsP_3, wr_same, wr_wr, wr_ne, up_same, up_ne, Nat.reduceAdd, Int.reduceAdd, Int.reduceSub, Int.reduceMul, Int.reduceLT, Int.reduceLE, Int.reduceEq, Int.reduceNeg, Int.reduceToNat, Nat.reduceLT, Nat.reduceLeDiff, Nat.reduceEqDiff, ↓reduceIte, true_and, and_true, not_true_eq_false, not_false_eq_true, eq_self, or_true, true_or, or_false, false_or, if_true, if_false, Int.toNat_natCast, w_ite, Nat.add_zero, reduceCtorEq, ne_eq, hm, e4, s158, s163]
      exact hQ'
    | succ j ih =>
      intro i hi he
      have hil : a + i < t.length := by omega
      have s158 := fun {d : Nat} {Q : XO → Hp → Prop} => sp_158 (d := d) (Q := Q) (L := L) (G := G) hL h1 (k := a + i) (by omega)
      have eb : bt t (a + i) = t.getD (a + i) 0 := by unfold bt; rw [if_pos hil]
      have hb := h1.bd (a + i)
      have s163 := fun {d : Nat} {Q : XO → Hp → Prop} {A : Hp} => sp_163 (d := d) (Q := Q) (A := A) (x := bt t (a + i)) (by omega) (by omega)
      rw [eb] at s158 s163
      simp only [Int.natCast_add] at s158
      rw [q_165_7]
      cases c : isl (t.getD (a + i) 0) with
      | true =>
        have := ih (i + 1) (by omega) (by rw [he]; exact run_s hil c)
        simp only [Int.natCast_add, Int.natCast_one] at this
        rw [c] at s163
        simp (disch := omega) only [q_165_0, q_165_1, q_165_4, q_165_5, q_165_6, q_165_8, q_165_9, q_165_12, q_165_13, q_165_14, q_165_17, q_165_20, q_165_23, q_165_26, q_165_29, q_165_30, q_165_e, va_rf_s, bz_0, bz_1, bz_ok, bb_ok, Nat.add_assoc, w_lt, w_add, w_sub, w_mul, w_div, em_def, w_eq, w_inT, ↓ilt_t, ↓ilt_f, ↓ieq_t, ↓ieq_f, ntT, w_b, w_ix, kx_v, kx_n, kl_n, kl_i, kl_r, kl_o, inA_i, inA_s, inA_b, inA_z, inA_l, inA_0, inA_4, inA_5, inA_6, inA_7, inA_8, inA_9, inA_10, al_0, al_1, al_2, al_4, al_5, al_98, bsP_2, bsP_3, wr_same, wr_wr, wr_ne, up_same, up_ne, Nat.reduceAdd, Int.reduceAdd, Int.reduceSub, Int.reduceMul, Int.reduceLT, Int.reduceLE, Int.reduceEq, Int.reduceNeg, Int.reduceToNat, Nat.reduceLT, Nat.reduceLeDiff, Nat.reduceEqDiff, ↓reduceIte, true_and, and_true, not_true_eq_false, not_false_eq_true, eq_self, or_true, true_or, or_false, false_or, if_true, if_false, Int.toNat_natCast, w_ite, Nat.add_zero, reduceCtorEq, ne_eq, hm, e4, s158, s163]
        exact this
      | false =>
        have ee : wde t (a + i) = a + i := run_e (Or.inr c)
        rw [he, ee, Nat.add_sub_cancel_left] at hQ'
        rw [c] at s163
        simp (disch := omega) only [q_165_0, q_165_1, q_165_4, q_165_5, q_165_6, q_165_8, q_165_9, q_165_12, q_165_13, q_165_14, q_165_17, q_165_20, q_165_23, q_165_26, q_165_29, q_165_30, q_165_e, va_rf_s, bz_0, bz_1, bz_ok, bb_ok, Nat.add_assoc, w_lt, w_add, w_sub, w_mul, w_div, em_def, w_eq, w_inT, ↓ilt_t, ↓ilt_f, ↓ieq_t, ↓ieq_f, ntT, w_b, w_ix, kx_v, kx_n, kl_n, kl_i, kl_r, kl_o, inA_i, inA_s, inA_b, inA_z, inA_l, inA_0, inA_4, inA_5, inA_6, inA_7, inA_8, inA_9, inA_10, al_0, al_1, al_2, al_4, al_5, al_98, bsP_2, bsP_3, wr_same, wr_wr, wr_ne, up_same, up_ne, Nat.reduceAdd, Int.reduceAdd, Int.reduceSub, Int.reduceMul, Int.reduceLT, Int.reduceLE, Int.reduceEq, Int.reduceNeg, Int.reduceToNat, Nat.reduceLT, Nat.reduceLeDiff, Nat.reduceEqDiff, ↓reduceIte, true_and, and_true, not_true_eq_false, not_false_eq_true, eq_self, or_true, true_or, or_false, false_or, if_true, if_false, Int.toNat_natCast, w_ite, Nat.add_zero, reduceCtorEq, ne_eq, hm, e4, s158, s163]
        exact hQ'
  have := lp (t.length - a) 0 (by omega) rfl
  simp (disch := omega) only [q_165_0, q_165_1, q_165_4, q_165_5, q_165_6, q_165_8, q_165_9, q_165_12, q_165_13, q_165_14, q_165_17, q_165_20, q_165_23, q_165_26, q_165_29, q_165_30, q_165_e, va_rf_s, bz_0, bz_1, bz_ok, bb_ok, Nat.add_assoc, w_lt, w_add, w_sub, w_mul, w_div, em_def, w_eq, w_inT, ↓ilt_t, ↓ilt_f, ↓ieq_t, ↓ieq_f, ntT, w_b, w_ix, kx_v, kx_n, kl_n, kl_i, kl_r, kl_o, inA_i, inA_s, inA_b, inA_z, inA_l, inA_0, inA_4, inA_5, inA_6, inA_7, inA_8, inA_9, inA_10, al_0, al_1, al_2, al_4, al_5, al_98, bsP_2, bsP_3, wr_same, wr_wr, wr_ne, up_same, up_ne, Nat.reduceAdd, Int.reduceAdd, Int.reduceSub, Int.reduceMul, Int.reduceLT, Int.reduceLE, Int.reduceEq, Int.reduceNeg, Int.reduceToNat, Nat.reduceLT, Nat.reduceLeDiff, Nat.reduceEqDiff, ↓reduceIte, true_and, and_true, not_true_eq_false, not_false_eq_true, eq_self, or_true, true_or, or_false, false_or, if_true, if_false, Int.toNat_natCast, w_ite, Nat.add_zero, reduceCtorEq, ne_eq]
  exact this
theorem sp_169 {c : Int} (h1 : -2147483648 ≤ c) (h2 : c < 2147483648) : XC (d + 1) 169 [.int (w c)] A Q ↔ Q (.inl (some (.int (w (kdH c))))) A := by
  have s163 := fun {d : Nat} {Q : XO → Hp → Prop} {A : Hp} => sp_163 (d := d) (Q := Q) (A := A) (x := c) (by omega) (by omega)
  simp (disch := omega) only [q_169_0, q_169_1, q_169_60, q_169_61, q_169_62, q_169_63, q_169_64, q_169_65, q_169_66, q_169_67, q_169_68, q_169_69, q_169_70, q_169_72, q_169_73, q_169_74, q_169_77, q_169_80, q_169_81, q_169_84, q_169_85, q_169_e, va_rf_s, bz_0, bz_1, bz_ok, bb_ok, Nat.add_assoc, w_lt, w_add, w_sub, w_mul, w_div, em_def, w_eq, w_inT, ↓ilt_t, ↓ilt_f, ↓ieq_t, ↓ieq_f, ntT, w_b, w_ix, kx_v, kx_n, kl_n, kl_i, kl_r, kl_o, inA_i, inA_s, inA_b, inA_z, inA_l, inA_0, inA_4, inA_5, inA_6, inA_7, inA_8, inA_9, inA_10, al_0, al_1, al_2, al_4, al_5, al_98, bsP_2, bsP_3, wr_same, wr_wr, wr_ne, up_same, up_ne, Nat.reduceAdd, Int.reduceAdd, Int.reduceSub, Int.reduceMul, Int.reduceLT, Int.reduceLE, Int.reduceEq, Int.reduceNeg, Int.reduceToNat, Nat.reduceLT, Nat.reduceLeDiff, Nat.reduceEqDiff, ↓reduceIte, true_and, and_true, not_true_eq_false, not_false_eq_true, eq_self, or_true, true_or, or_false, false_or, if_true, if_false, Int.toNat_natCast, w_ite, Nat.add_zero, reduceCtorEq, ne_eq, w_toInt]
  unfold kdH
  have hc : c = 47 ∨ c = 37 ∨ c = 35 ∨ c = 45 ∨ c = 43 ∨ c = 126 ∨ (c ≠ 47 ∧ c ≠ 37 ∧ c ≠ 35 ∧ c ≠ 45 ∧ c ≠ 43 ∧ c ≠ 126) := by omega
  rcases hc with e | e | e | e | e | e | ⟨e1, e2, e3, e4, e5, e6⟩
  · subst e
    rw [show swL [(35, 64), (37, 62), (43, 68), (45, 66), (47, 60), (126, 70)] 73 47 = 60 from rfl]
    simp (disch := omega) only [q_169_0, q_169_1, q_169_60, q_169_61, q_169_62, q_169_63, q_169_64, q_169_65, q_169_66, q_169_67, q_169_68, q_169_69, q_169_70, q_169_72, q_169_73, q_169_74, q_169_77, q_169_80, q_169_81, q_169_84, q_169_85, q_169_e, va_rf_s, bz_0, bz_1, bz_ok, bb_ok, Nat.add_assoc, w_lt, w_add, w_sub, w_mul, w_div, em_def, w_eq, w_inT, ↓ilt_t, ↓ilt_f, ↓ieq_t, ↓ieq_f, ntT, w_b, w_ix, kx_v, kx_n, kl_n, kl_i, kl_r, kl_o, inA_i, inA_s, inA_b, inA_z, inA_l, inA_0, inA_4, inA_5, inA_6, inA_7, inA_8, inA_9, inA_10, al_0, al_1, al_2, al_4, al_5, al_98, bsP_2, bsP_3, wr_same, wr_wr, wr_ne, up_same, up_ne, Nat.reduceAdd, Int.reduceAdd, Int.reduceSub, Int.reduceMul, Int.reduceLT, Int.reduceLE, Int.reduceEq, Int.reduceNeg, Int.reduceToNat, Nat.reduceLT, Nat.reduceLeDiff, Nat.reduceEqDiff, ↓reduceIte, true_and, and_true, not_true_eq_false, not_false_eq_true, eq_self, or_true, true_or, or_false, false_or, if_true, if_false, Int.toNat_natCast, w_ite, Nat.add_zero, reduceCtorEq, ne_eq]
  · subst e
    rw [show swL [(35, 64), (37, 62), (43, 68), (45, 66), (47, 60), (126, 70)] 73 37 = 62 from rfl]
    simp (disch := omega) only [q_169_0, q_169_1, q_169_60, q_169_61, q_169_62, q_169_63, q_169_64, q_169_65, q_169_66, q_169_67, q_169_68, q_169_69, q_169_70, q_169_72, q_169_73, q_169_74, q_169_77, q_169_80, q_169_81, q_169_84, q_169_85, q_169_e, va_rf_s, bz_0, bz_1, bz_ok, bb_ok, Nat.add_assoc, w_lt, w_add, w_sub, w_mul, w_div, em_def, w_eq, w_inT, ↓ilt_t, ↓ilt_f, ↓ieq_t, ↓ieq_f, ntT, w_b, w_ix, kx_v, kx_n, kl_n, kl_i, kl_r, kl_o, inA_i, inA_s, inA_b, inA_z, inA_l, inA_0, inA_4, inA_5, inA_6, inA_7, inA_8, inA_9, inA_10, al_0, al_1, al_2, al_4, al_5, al_98, bsP_2, bsP_3, wr_same, wr_wr, wr_ne, up_same, up_ne, Nat.reduceAdd, Int.reduceAdd, Int.reduceSub, Int.reduceMul, Int.reduceLT, Int.reduceLE, Int.reduceEq, Int.reduceNeg, Int.reduceToNat, Nat.reduceLT, Nat.reduceLeDiff, Nat.reduceEqDiff, ↓reduceIte, true_and, and_true, not_true_eq_false, not_false_eq_true, eq_self, or_true, true_or, or_false, false_or, if_true, if_false, Int.toNat_natCast, w_ite, Nat.add_zero, reduceCtorEq, ne_eq]
  · subst e
    rw [show swL [(35, 64), (37, 62), (43, 68), (45, 66), (47, 60), (126, 70)] 73 35 = 64 from rfl]
    simp (disch := omega) only [q_169_0, q_169_1, q_169_60, q_169_61, q_169_62, q_169_63, q_169_64, q_169_65, q_169_66, q_169_67, q_169_68, q_169_69, q_169_70, q_169_72, q_169_73, q_169_74, q_169_77, q_169_80, q_169_81, q_169_84, q_169_85, q_169_e, va_rf_s, bz_0, bz_1, bz_ok, bb_ok, Nat.add_assoc, w_lt, w_add, w_sub, w_mul, w_div, em_def, w_eq, w_inT, ↓ilt_t, ↓ilt_f, ↓ieq_t, ↓ieq_f, ntT, w_b, w_ix, kx_v, kx_n, kl_n, kl_i, kl_r, kl_o, inA_i, inA_s, inA_b, inA_z, inA_l, inA_0, inA_4, inA_5, inA_6, inA_7, inA_8, inA_9, inA_10, al_0, al_1, al_2, al_4, al_5, al_98, bsP_2, bsP_3, wr_same, wr_wr, wr_ne, up_same, up_ne, Nat.reduceAdd, Int.reduceAdd, Int.reduceSub, Int.reduceMul, Int.reduceLT, Int.reduceLE, Int.reduceEq, Int.reduceNeg, Int.reduceToNat, Nat.reduceLT, Nat.reduceLeDiff, Nat.reduceEqDiff, ↓reduceIte, true_and, and_true, not_true_eq_false, not_false_eq_true, eq_self, or_true, true_or, or_false, false_or, if_true, if_false, Int.toNat_natCast, w_ite, Nat.add_zero, reduceCtorEq, ne_eq]
  · subst e
    rw [show swL [(35, 64), (37, 62), (43, 68), (45, 66), (47, 60), (126, 70)] 73 45 = 66 from rfl]
    simp (disch := omega) only [q_169_0, q_169_1, q_169_60, q_169_61, q_169_62, q_169_63, q_169_64, q_169_65, q_169_66, q_169_67, q_169_68, q_169_69, q_169_70, q_169_72, q_169_73, q_169_74, q_169_77, q_169_80, q_169_81, q_169_84, q_169_85, q_169_e, va_rf_s, bz_0, bz_1, bz_ok, bb_ok, Nat.add_assoc, w_lt, w_add, w_sub, w_mul, w_div, em_def, w_eq, w_inT, ↓ilt_t, ↓ilt_f, ↓ieq_t, ↓ieq_f, ntT, w_b, w_ix, kx_v, kx_n, kl_n, kl_i, kl_r, kl_o, inA_i, inA_s, inA_b, inA_z, inA_l, inA_0, inA_4, inA_5, inA_6, inA_7, inA_8, inA_9, inA_10, al_0, al_1, al_2, al_4, al_5, al_98, bsP_2, bsP_3, wr_same, wr_wr, wr_ne, up_same, up_ne, Nat.reduceAdd, Int.reduceAdd, Int.reduceSub, Int.reduceMul, Int.reduceLT, Int.reduceLE, Int.reduceEq, Int.reduceNeg, Int.reduceToNat, Nat.reduceLT, Nat.reduceLeDiff, Nat.reduceEqDiff, ↓reduceIte, true_and, and_true, not_true_eq_false, not_false_eq_true, eq_self, or_true, true_or, or_false, false_or, if_true, if_false, Int.toNat_natCast, w_ite, Nat.add_zero, reduceCtorEq, ne_eq]
  · subst e
    rw [show swL [(35, 64), (37, 62), (43, 68), (45, 66), (47, 60), (126, 70)] 73 43 = 68 from rfl]
    simp (disch := omega) only [q_169_0, q_169_1, q_169_60, q_169_61, q_169_62, q_169_63, q_169_64, q_169_65, q_169_66, q_169_67, q_169_68, q_169_69, q_169_70, q_169_72, q_169_73, q_169_74, q_169_77, q_169_80, q_169_81, q_169_84, q_169_85, q_169_e, va_rf_s, bz_0, bz_1, bz_ok, bb_ok, Nat.add_assoc, w_lt, w_add, w_sub, w_mul, w_div, em_def, w_eq, w_inT, ↓ilt_t, ↓ilt_f, ↓ieq_t, ↓ieq_f, ntT, w_b, w_ix, kx_v, kx_n, kl_n, kl_i, kl_r, kl_o, inA_i, inA_s, inA_b, inA_z, inA_l, inA_0, inA_4, inA_5, inA_6, inA_7, inA_8, inA_9, inA_10, al_0, al_1, al_2, al_4, al_5, al_98, bsP_2, bsP_3, wr_same, wr_wr, wr_ne, up_same, up_ne, Nat.reduceAdd, Int.reduceAdd, Int.reduceSub, Int.reduceMul, Int.reduceLT, Int.reduceLE, Int.reduceEq, Int.reduceNeg, Int.reduceToNat, Nat.reduceLT, Nat.reduceLeDiff, Nat.reduceEqDiff, ↓reduceIte, true_and, and_true, not_true_eq_false, not_false_eq_true, eq_self, or_true, true_or, or_false, false_or, if_true, if_false, Int.toNat_natCast, w_ite, Nat.add_zero, reduceCtorEq, ne_eq]
  · subst e
    rw [show swL [(35, 64), (37, 62), (43, 68), (45, 66), (47, 60), (126, 70)] 73 126 = 70 from rfl]
    simp (disch := omega) only [q_169_0, q_169_1, q_169_60, q_169_61, q_169_62, q_169_63, q_169_64, q_169_65, q_169_66, q_169_67, q_169_68, q_169_69, q_169_70, q_169_72, q_169_73, q_169_74, q_169_77, q_169_80, q_169_81, q_169_84, q_169_85, q_169_e, va_rf_s, bz_0, bz_1, bz_ok, bb_ok, Nat.add_assoc, w_lt, w_add, w_sub, w_mul, w_div, em_def, w_eq, w_inT, ↓ilt_t, ↓ilt_f, ↓ieq_t, ↓ieq_f, ntT, w_b, w_ix, kx_v, kx_n, kl_n, kl_i, kl_r, kl_o, inA_i, inA_s, inA_b, inA_z, inA_l, inA_0, inA_4, inA_5, inA_6, inA_7, inA_8, inA_9, inA_10, al_0, al_1, al_2, al_4, al_5, al_98, bsP_2, bsP_3, wr_same, wr_wr, wr_ne, up_same, up_ne, Nat.reduceAdd, Int.reduceAdd, Int.reduceSub, Int.reduceMul, Int.reduceLT, Int.reduceLE, Int.reduceEq, Int.reduceNeg, Int.reduceToNat, Nat.reduceLT, Nat.reduceLeDiff, Nat.reduceEqDiff, ↓reduceIte, true_and, and_true, not_true_eq_false, not_false_eq_true, eq_self, or_true, true_or, or_false, false_or, if_true, if_false, Int.toNat_natCast, w_ite, Nat.add_zero, reduceCtorEq, ne_eq]
  · have esw : swL [(35, 64), (37, 62), (43, 68), (45, 66), (47, 60), (126, 70)] 73 c = 73 := by
      simp [swL, e1, e2, e3, e4, e5, e6]
    rw [esw, if_neg e1, if_neg e2, if_neg e3, if_neg e4, if_neg e5, if_neg e6]
    cases hl : isl c with
    | true =>
      rw [hl] at s163
      simp (disch := omega) only [q_169_0, q_169_1, q_169_60, q_169_61, q_169_62, q_169_63, q_169_64, q_169_65, q_169_66, q_169_67, q_169_68, q_169_69, q_169_70, q_169_72, q_169_73, q_169_74, q_169_77, q_169_80, q_169_81, q_169_84, q_169_85, q_169_e, va_rf_s, bz_0, bz_1, bz_ok, bb_ok, Nat.add_assoc, w_lt, w_add, w_sub, w_mul, w_div, em_def, w_eq, w_inT, ↓ilt_t, ↓ilt_f, ↓ieq_t, ↓ieq_f, ntT, w_b, w_ix, kx_v, kx_n, kl_n, kl_i, kl_r, kl_o, inA_i, inA_s, inA_b, inA_z, inA_l, inA_0, inA_4, inA_5, inA_6, inA_7, inA_8, inA_9, inA_10, al_0, al_1, al_2, al_4, al_5, al_98, bsP_2, bsP_3, wr_same, wr_wr, wr_ne, up_same, up_ne, Nat.reduceAdd, Int.reduceAdd, Int.reduceSub, Int.reduceMul, Int.reduceLT, Int.reduceLE, Int.reduceEq, Int.reduceNeg, Int.reduceToNat, Nat.reduceLT, Nat.reduceLeDiff, Nat.reduceEqDiff, ↓reduceIte, true_and, and_true, not_true_eq_false, not_false_eq_true, eq_self, or_true, true_or, or_false, false_or, if_true, if_false, Int.toNat_natCast, w_ite, Nat.add_zero, reduceCtorEq, ne_eq, s163, bz_t]
    | false =>
      rw [hl] at s163
      simp (disch := omega) only [q_169_0, q_169_1, q_169_60, q_169_61, q_169_62, q_169_63, q_169_64, q_169_65, q_169_66, q_169_67, q_169_68, q_169_69, q_169_70, q_169_72, q_169_73, q_169_74, q_169_77, q_169_80, q_169_81, q_169_84, q_169_85, q_169_e, va_rf_s, bz_0, bz_1, bz_ok, bb_ok, Nat.add_assoc, w_lt, w_add, w_sub, w_mul, w_div, em_def, w_eq, w_inT, ↓ilt_t, ↓ilt_f, ↓ieq_t, ↓ieq_f, ntT, w_b, w_ix, kx_v, kx_n, kl_n, kl_i, kl_r, kl_o, inA_i, inA_s, inA_b, inA_z, inA_l, inA_0, inA_4, inA_5, inA_6, inA_7, inA_8, inA_9, inA_10, al_0, al_1, al_2, al_4, al_5, al_98, bsP_2, bsP_3, wr_same, wr_wr, wr_ne, up_same, up_ne, Nat.reduceAdd, Int.reduceAdd, Int.reduceSub, Int.reduceMul, Int.reduceLT, Int.reduceLE, Int.reduceEq, Int.reduceNeg, Int.reduceToNat, Nat.reduceLT, Nat.reduceLeDiff, Nat.reduceEqDiff, ↓reduceIte, true_and, and_true, not_true_eq_false, not_false_eq_true, eq_self, or_true, true_or, or_false, false_or, if_true, if_false, Int.toNat_natCast, w_ite, Nat.add_zero, reduceCtorEq, ne_eq, s163, bz_f]
end

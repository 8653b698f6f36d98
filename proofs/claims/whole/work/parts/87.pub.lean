/-! the class's calls: fault, status, told, fits, rule, item -/
abbrev B32 (z : Int) : Prop := -2147483648 ≤ z ∧ z < 2147483648
abbrev inL (l : Int) : Prop := 0 ≤ l ∧ l < 2
def rlz (s : St) (l : Int) : List Rl := s.2.1.2 l.toNat
abbrev Res : Type := (Int ⊕ Nat) × St
def rMiss (s : St) : Res := (.inr 0, miss s)
def rWron (s : St) : Res := (.inr 1, wron s)
abbrev isRl (s : St) (l q : Int) : Prop := (0 ≤ l ∧ l < 2) ∧ 0 ≤ q ∧ q < (rlz s l).length
def rTold (s : St) (x : Int) : Res := if 0 ≤ x ∧ x ≤ 4 then (.inl (if x = 0 then (s.2.1.1 : Int) else if x = 1 then (s.1.length : Int) else if x = 2 then (s.2.2.1.length : Int) else ((rlz s (x - 3)).length : Int)), s) else rWron s
def rStatus (s : St) (x : Int) : Res := (.inl (if x = 0 then (s.2.2.2.2.1 : Int) else if x = 1 then (s.2.2.2.2.2 : Int) else -1), s)
def rFits (s : St) (l n : Int) : Res := if inL l then (if 0 ≤ n ∧ n ≤ 999999999 then (.inl (ffz (rlz s l) n), s) else rWron s) else rMiss s
def rRule (s : St) (l q x : Int) : Res := if isRl s l q then (if 0 ≤ x ∧ x ≤ 5 then (.inl (if x = 0 then ((rlz s l).getD q.toNat rd0).1 else if x = 1 then ((rlz s l).getD q.toNat rd0).2.1 else if x = 2 then ((rlz s l).getD q.toNat rd0).2.2.1 else if x = 3 then ((rlz s l).getD q.toNat rd0).2.2.2.1 else if x = 4 then (((rlz s l).getD q.toNat rd0).2.2.2.2.length : Int) else (cnt (fun n => decide (ffz (rlz s l) n = q)) (s.2.1.1 + 1) : Int)), s) else rWron s) else rMiss s
def rItem (s : St) (l q i x : Int) : Res := if isRl s l q ∧ 0 ≤ i ∧ i < ((rlz s l).getD q.toNat rd0).2.2.2.2.length then (if 0 ≤ x ∧ x ≤ 1 then (.inl (if x = 0 then (((rlz s l).getD q.toNat rd0).2.2.2.2.getD i.toNat d0).1 else (((rlz s l).getD q.toNat rd0).2.2.2.2.getD i.toNat d0).2.1), s) else rWron s) else rMiss s
abbrev few (s : St) : Prop := s.2.2.2.2.1 < 1000000 ∧ s.2.2.2.2.2 < 1000000
section
variable {d : Nat} {Q : XO → Hp → Prop} {S : SH} {I : MI} {L : ML} {R : MR} {G : MG} {A : Hp}
variable {c lo : Nat} {s : St}
theorem CR.bk (h : CR S I L R G c lo s) : I (c + 3) 2 = w s.2.1.1 ∧ 1 ≤ s.2.1.1 ∧ s.2.1.1 ≤ 1000 ∧ ∀ l, l < 2 → I (c + 5) l = w (s.2.1.2 l).length ∧ (s.2.1.2 l).length ≤ 30 := by
  have := h.2.2.2.2.1
  exact ⟨this.1, this.2.1, this.2.2.1, fun l hl => ⟨(this.2.2.2 l hl).1, (this.2.2.2 l hl).2.1⟩⟩
theorem sp_107 (h : CR S I L R G c lo s) (hQ : CK S I L R G c lo Q (outX (.inl s.2.2.2.1)) s) : XC d 107 [.ref c] (mk S I L R G) Q := by
  have hc := h.1.1
  have e := h.2.2.2.2.2.2.2.2.1
  simp (disch := omega) only [q_107_0, q_107_1, q_107_4, q_107_e, va_rf_s, bz_0, bz_1, bz_ok, bb_ok, Nat.add_assoc, w_lt, w_add, w_sub, w_mul, w_div, em_def, w_eq, w_inT, ↓ilt_t, ↓ilt_f, ↓ieq_t, ↓ieq_f, ntT, w_b, w_ix, kx_v, kx_n, kl_n, kl_i, kl_r, kl_o, inA_i, inA_s, inA_b, inA_z, inA_l, inA_0, inA_4, inA_5, inA_6, inA_7, inA_8, inA_9, inA_10, al_0, al_1, al_2, al_4, al_5, al_98, bsP_2, bsP_3, wr_same, wr_wr, wr_ne, up_same, up_ne, Nat.reduceAdd, Int.reduceAdd, Int.reduceSub, Int.reduceMul, Int.reduceLT, Int.reduceLE, Int.reduceEq, Int.reduceNeg, Int.reduceToNat, Nat.reduceLT, Nat.reduceLeDiff, Nat.reduceEqDiff, ↓reduceIte, true_and, and_true, not_true_eq_false, not_false_eq_true, eq_self, or_true, true_or, or_false, false_or, if_true, if_false, Int.toNat_natCast, w_ite, Nat.add_zero, reduceCtorEq, ne_eq, hc, e]
  exact hQ.ask h (Rem.refl h)
theorem sp_140 {x : Int} (h : CR S I L R G c lo s) (hx : B32 x) (hQ : CK S I L R G c lo Q (outX (rStatus s x).1) (rStatus s x).2) : XC d 140 [.ref c, .int (w x)] (mk S I L R G) Q := by
  have hc := h.1.1
  have e1 := h.2.2.2.2.2.2.2.2.2.2.2.1
  have e2 := h.2.2.2.2.2.2.2.2.2.2.2.2.1
  have hQ' := CK.ask h (Rem.refl h) hQ
  unfold rStatus at hQ'
  dsimp only at hQ'
  by_cases c0 : x = 0
  · rw [if_pos c0] at hQ'
    simp (disch := omega) only [q_140_0, q_140_1, q_140_4, q_140_5, q_140_8, q_140_9, q_140_10, q_140_11, q_140_14, q_140_15, q_140_18, q_140_21, q_140_22, q_140_e, va_rf_s, bz_0, bz_1, bz_ok, bb_ok, Nat.add_assoc, w_lt, w_add, w_sub, w_mul, w_div, em_def, w_eq, w_inT, ↓ilt_t, ↓ilt_f, ↓ieq_t, ↓ieq_f, ntT, w_b, w_ix, kx_v, kx_n, kl_n, kl_i, kl_r, kl_o, inA_i, inA_s, inA_b, inA_z, inA_l, inA_0, inA_4, inA_5, inA_6, inA_7, inA_8, inA_9, inA_10, al_0, al_1, al_2, al_4, al_5, al_98, bsP_2, bsP_3, wr_same, wr_wr, wr_ne, up_same, up_ne, Nat.reduceAdd, Int.reduceAdd, Int.reduceSub, Int.reduceMul, Int.reduceLT, Int.reduceLE, Int.reduceEq, Int.reduceNeg, Int.reduceToNat, Nat.reduceLT, Nat.reduceLeDiff, Nat.reduceEqDiff, ↓reduceIte, true_and, and_true, not_true_eq_false, not_false_eq_true, eq_self, or_true, true_or, or_false, false_or, if_true, if_false, Int.toNat_natCast, w_ite, Nat.add_zero, reduceCtorEq, ne_eq, hc, e1]
    exact hQ'
  · by_cases c1 : x = 1
    · rw [if_neg c0, if_pos c1] at hQ'
      simp (disch := omega) only [q_140_0, q_140_1, q_140_4, q_140_5, q_140_8, q_140_9, q_140_10, q_140_11, q_140_14, q_140_15, q_140_18, q_140_21, q_140_22, q_140_e, va_rf_s, bz_0, bz_1, bz_ok, bb_ok, Nat.add_assoc, w_lt, w_add, w_sub, w_mul, w_div, em_def, w_eq, w_inT, ↓ilt_t, ↓ilt_f, ↓ieq_t, ↓ieq_f, ntT, w_b, w_ix, kx_v, kx_n, kl_n, kl_i, kl_r, kl_o, inA_i, inA_s, inA_b, inA_z, inA_l, inA_0, inA_4, inA_5, inA_6, inA_7, inA_8, inA_9, inA_10, al_0, al_1, al_2, al_4, al_5, al_98, bsP_2, bsP_3, wr_same, wr_wr, wr_ne, up_same, up_ne, Nat.reduceAdd, Int.reduceAdd, Int.reduceSub, Int.reduceMul, Int.reduceLT, Int.reduceLE, Int.reduceEq, Int.reduceNeg, Int.reduceToNat, Nat.reduceLT, Nat.reduceLeDiff, Nat.reduceEqDiff, ↓reduceIte, true_and, and_true, not_true_eq_false, not_false_eq_true, eq_self, or_true, true_or, or_false, false_or, if_true, if_false, Int.toNat_natCast, w_ite, Nat.add_zero, reduceCtorEq, ne_eq, hc, e2]
      exact hQ'
    · rw [if_neg c0, if_neg c1] at hQ'
      simp (disch := omega) only [q_140_0, q_140_1, q_140_4, q_140_5, q_140_8, q_140_9, q_140_10, q_140_11, q_140_14, q_140_15, q_140_18, q_140_21, q_140_22, q_140_e, va_rf_s, bz_0, bz_1, bz_ok, bb_ok, Nat.add_assoc, w_lt, w_add, w_sub, w_mul, w_div, em_def, w_eq, w_inT, ↓ilt_t, ↓ilt_f, ↓ieq_t, ↓ieq_f, ntT, w_b, w_ix, kx_v, kx_n, kl_n, kl_i, kl_r, kl_o, inA_i, inA_s, inA_b, inA_z, inA_l, inA_0, inA_4, inA_5, inA_6, inA_7, inA_8, inA_9, inA_10, al_0, al_1, al_2, al_4, al_5, al_98, bsP_2, bsP_3, wr_same, wr_wr, wr_ne, up_same, up_ne, Nat.reduceAdd, Int.reduceAdd, Int.reduceSub, Int.reduceMul, Int.reduceLT, Int.reduceLE, Int.reduceEq, Int.reduceNeg, Int.reduceToNat, Nat.reduceLT, Nat.reduceLeDiff, Nat.reduceEqDiff, ↓reduceIte, true_and, and_true, not_true_eq_false, not_false_eq_true, eq_self, or_true, true_or, or_false, false_or, if_true, if_false, Int.toNat_natCast, w_ite, Nat.add_zero, reduceCtorEq, ne_eq, hc]
      exact hQ'
theorem sp_115 {x : Int} (h : CR S I L R G c lo s) (hf : few s) (hx : B32 x) (hQ : CK S I L R G c lo Q (outX (rTold s x).1) (rTold s x).2) : XC (d + 1) 115 [.ref c, .int (w x)] (mk S I L R G) Q := by
  have hc := h.1.1
  have hwg := h.2.2.2.2.2.2.2.2.2.2.2.2.1
  obtain ⟨b1, b2, b3, b4⟩ := h.bk
  have ht := h.2.2.2.1.1.1
  obtain ⟨nx, n1, n2, n3, n4, n5⟩ := h.2.2.2.2.2.1
  have hk : t_han 115 = [] := rfl
  unfold rTold at hQ
  by_cases cx : 0 ≤ x ∧ x ≤ 4
  · rw [if_pos cx] at hQ
    have hQ' := CK.ask h (Rem.refl h) hQ
    dsimp only at hQ'
    have s146 := fun {d : Nat} {Q : XO → Hp → Prop} => sp_146 (d := d) (Q := Q) (S := S) (I := I) (L := L) (R := R) (G := G) (c := c) (v := x) (l := 0) (h := 4) cx hx.1 hx.2 (by decide) (by decide) (by decide) (by decide)
    have hBk := h.1.2.2.1
    have hTp := h.1.2.1
    have hHs := h.1.2.2.2.1
    simp (disch := omega) only [q_115_0, q_115_1, q_115_2, q_115_3, q_115_4, q_115_7, q_115_8, q_115_40, q_115_41, q_115_44, q_115_47, q_115_48, q_115_49, q_115_52, q_115_55, q_115_56, q_115_57, q_115_60, q_115_63, q_115_64, q_115_65, q_115_68, q_115_69, q_115_72, q_115_73, q_115_74, q_115_77, q_115_78, q_115_81, q_115_e, va_rf_s, bz_0, bz_1, bz_ok, bb_ok, Nat.add_assoc, w_lt, w_add, w_sub, w_mul, w_div, em_def, w_eq, w_inT, ↓ilt_t, ↓ilt_f, ↓ieq_t, ↓ieq_f, ntT, w_b, w_ix, kx_v, kx_n, kl_n, kl_i, kl_r, kl_o, inA_i, inA_s, inA_b, inA_z, inA_l, inA_0, inA_4, inA_5, inA_6, inA_7, inA_8, inA_9, inA_10, al_0, al_1, al_2, al_4, al_5, al_98, bsP_2, bsP_3, wr_same, wr_wr, wr_ne, up_same, up_ne, Nat.reduceAdd, Int.reduceAdd, Int.reduceSub, Int.reduceMul, Int.reduceLT, Int.reduceLE, Int.reduceEq, Int.reduceNeg, Int.reduceToNat, Nat.reduceLT, Nat.reduceLeDiff, Nat.reduceEqDiff, ↓reduceIte, true_and, and_true, not_true_eq_false, not_false_eq_true, eq_self, or_true, true_or, or_false, false_or, if_true, if_false, Int.toNat_natCast, w_ite, Nat.add_zero, reduceCtorEq, ne_eq, hc, s146, w_toInt]
    have hcs : x = 0 ∨ x = 1 ∨ x = 2 ∨ x = 3 ∨ x = 4 := by omega
    rcases hcs with e | e | e | e | e
    · subst e
      rw [show swT [40, 48, 56, 64] 73 0 0 = 40 from rfl]
      simp (disch := omega) only [q_115_0, q_115_1, q_115_2, q_115_3, q_115_4, q_115_7, q_115_8, q_115_40, q_115_41, q_115_44, q_115_47, q_115_48, q_115_49, q_115_52, q_115_55, q_115_56, q_115_57, q_115_60, q_115_63, q_115_64, q_115_65, q_115_68, q_115_69, q_115_72, q_115_73, q_115_74, q_115_77, q_115_78, q_115_81, q_115_e, va_rf_s, bz_0, bz_1, bz_ok, bb_ok, Nat.add_assoc, w_lt, w_add, w_sub, w_mul, w_div, em_def, w_eq, w_inT, ↓ilt_t, ↓ilt_f, ↓ieq_t, ↓ieq_f, ntT, w_b, w_ix, kx_v, kx_n, kl_n, kl_i, kl_r, kl_o, inA_i, inA_s, inA_b, inA_z, inA_l, inA_0, inA_4, inA_5, inA_6, inA_7, inA_8, inA_9, inA_10, al_0, al_1, al_2, al_4, al_5, al_98, bsP_2, bsP_3, wr_same, wr_wr, wr_ne, up_same, up_ne, Nat.reduceAdd, Int.reduceAdd, Int.reduceSub, Int.reduceMul, Int.reduceLT, Int.reduceLE, Int.reduceEq, Int.reduceNeg, Int.reduceToNat, Nat.reduceLT, Nat.reduceLeDiff, Nat.reduceEqDiff, ↓reduceIte, true_and, and_true, not_true_eq_false, not_false_eq_true, eq_self, or_true, true_or, or_false, false_or, if_true, if_false, Int.toNat_natCast, w_ite, Nat.add_zero, reduceCtorEq, ne_eq, hc, hBk.1, b1]
      exact hQ'
    · subst e
      rw [show swT [40, 48, 56, 64] 73 0 1 = 48 from rfl]
      simp (disch := omega) only [q_115_0, q_115_1, q_115_2, q_115_3, q_115_4, q_115_7, q_115_8, q_115_40, q_115_41, q_115_44, q_115_47, q_115_48, q_115_49, q_115_52, q_115_55, q_115_56, q_115_57, q_115_60, q_115_63, q_115_64, q_115_65, q_115_68, q_115_69, q_115_72, q_115_73, q_115_74, q_115_77, q_115_78, q_115_81, q_115_e, va_rf_s, bz_0, bz_1, bz_ok, bb_ok, Nat.add_assoc, w_lt, w_add, w_sub, w_mul, w_div, em_def, w_eq, w_inT, ↓ilt_t, ↓ilt_f, ↓ieq_t, ↓ieq_f, ntT, w_b, w_ix, kx_v, kx_n, kl_n, kl_i, kl_r, kl_o, inA_i, inA_s, inA_b, inA_z, inA_l, inA_0, inA_4, inA_5, inA_6, inA_7, inA_8, inA_9, inA_10, al_0, al_1, al_2, al_4, al_5, al_98, bsP_2, bsP_3, wr_same, wr_wr, wr_ne, up_same, up_ne, Nat.reduceAdd, Int.reduceAdd, Int.reduceSub, Int.reduceMul, Int.reduceLT, Int.reduceLE, Int.reduceEq, Int.reduceNeg, Int.reduceToNat, Nat.reduceLT, Nat.reduceLeDiff, Nat.reduceEqDiff, ↓reduceIte, true_and, and_true, not_true_eq_false, not_false_eq_true, eq_self, or_true, true_or, or_false, false_or, if_true, if_false, Int.toNat_natCast, w_ite, Nat.add_zero, reduceCtorEq, ne_eq, hc, hTp.1, ht]
      exact hQ'
    · subst e
      rw [show swT [40, 48, 56, 64] 73 0 2 = 56 from rfl]
      simp (disch := omega) only [q_115_0, q_115_1, q_115_2, q_115_3, q_115_4, q_115_7, q_115_8, q_115_40, q_115_41, q_115_44, q_115_47, q_115_48, q_115_49, q_115_52, q_115_55, q_115_56, q_115_57, q_115_60, q_115_63, q_115_64, q_115_65, q_115_68, q_115_69, q_115_72, q_115_73, q_115_74, q_115_77, q_115_78, q_115_81, q_115_e, va_rf_s, bz_0, bz_1, bz_ok, bb_ok, Nat.add_assoc, w_lt, w_add, w_sub, w_mul, w_div, em_def, w_eq, w_inT, ↓ilt_t, ↓ilt_f, ↓ieq_t, ↓ieq_f, ntT, w_b, w_ix, kx_v, kx_n, kl_n, kl_i, kl_r, kl_o, inA_i, inA_s, inA_b, inA_z, inA_l, inA_0, inA_4, inA_5, inA_6, inA_7, inA_8, inA_9, inA_10, al_0, al_1, al_2, al_4, al_5, al_98, bsP_2, bsP_3, wr_same, wr_wr, wr_ne, up_same, up_ne, Nat.reduceAdd, Int.reduceAdd, Int.reduceSub, Int.reduceMul, Int.reduceLT, Int.reduceLE, Int.reduceEq, Int.reduceNeg, Int.reduceToNat, Nat.reduceLT, Nat.reduceLeDiff, Nat.reduceEqDiff, ↓reduceIte, true_and, and_true, not_true_eq_false, not_false_eq_true, eq_self, or_true, true_or, or_false, false_or, if_true, if_false, Int.toNat_natCast, w_ite, Nat.add_zero, reduceCtorEq, ne_eq, hc, hHs.1, n3]
      exact hQ'
    · subst e
      rw [show swT [40, 48, 56, 64] 73 0 3 = 64 from rfl]
      have s1 := fun {d : Nat} {Q : XO → Hp → Prop} => sp_1 (d := d) (Q := Q) (I := I) (L := L) (R := R) (G := G) (l := 0) hBk (by decide) (b4 0 (by decide)).1
      simp (disch := omega) only [q_115_0, q_115_1, q_115_2, q_115_3, q_115_4, q_115_7, q_115_8, q_115_40, q_115_41, q_115_44, q_115_47, q_115_48, q_115_49, q_115_52, q_115_55, q_115_56, q_115_57, q_115_60, q_115_63, q_115_64, q_115_65, q_115_68, q_115_69, q_115_72, q_115_73, q_115_74, q_115_77, q_115_78, q_115_81, q_115_e, va_rf_s, bz_0, bz_1, bz_ok, bb_ok, Nat.add_assoc, w_lt, w_add, w_sub, w_mul, w_div, em_def, w_eq, w_inT, ↓ilt_t, ↓ilt_f, ↓ieq_t, ↓ieq_f, ntT, w_b, w_ix, kx_v, kx_n, kl_n, kl_i, kl_r, kl_o, inA_i, inA_s, inA_b, inA_z, inA_l, inA_0, inA_4, inA_5, inA_6, inA_7, inA_8, inA_9, inA_10, al_0, al_1, al_2, al_4, al_5, al_98, bsP_2, bsP_3, wr_same, wr_wr, wr_ne, up_same, up_ne, Nat.reduceAdd, Int.reduceAdd, Int.reduceSub, Int.reduceMul, Int.reduceLT, Int.reduceLE, Int.reduceEq, Int.reduceNeg, Int.reduceToNat, Nat.reduceLT, Nat.reduceLeDiff, Nat.reduceEqDiff, ↓reduceIte, true_and, and_true, not_true_eq_false, not_false_eq_true, eq_self, or_true, true_or, or_false, false_or, if_true, if_false, Int.toNat_natCast, w_ite, Nat.add_zero, reduceCtorEq, ne_eq, hc, hBk.1]
      exact s1.mpr (by simp (disch := omega) only [q_115_0, q_115_1, q_115_2, q_115_3, q_115_4, q_115_7, q_115_8, q_115_40, q_115_41, q_115_44, q_115_47, q_115_48, q_115_49, q_115_52, q_115_55, q_115_56, q_115_57, q_115_60, q_115_63, q_115_64, q_115_65, q_115_68, q_115_69, q_115_72, q_115_73, q_115_74, q_115_77, q_115_78, q_115_81, q_115_e, va_rf_s, bz_0, bz_1, bz_ok, bb_ok, Nat.add_assoc, w_lt, w_add, w_sub, w_mul, w_div, em_def, w_eq, w_inT, ↓ilt_t, ↓ilt_f, ↓ieq_t, ↓ieq_f, ntT, w_b, w_ix, kx_v, kx_n, kl_n, kl_i, kl_r, kl_o, inA_i, inA_s, inA_b, inA_z, inA_l, inA_0, inA_4, inA_5, inA_6, inA_7, inA_8, inA_9, inA_10, al_0, al_1, al_2, al_4, al_5, al_98, bsP_2, bsP_3, wr_same, wr_wr, wr_ne, up_same, up_ne, Nat.reduceAdd, Int.reduceAdd, Int.reduceSub, Int.reduceMul, Int.reduceLT, Int.reduceLE, Int.reduceEq, Int.reduceNeg, Int.reduceToNat, Nat.reduceLT, Nat.reduceLeDiff, Nat.reduceEqDiff, ↓reduceIte, true_and, and_true, not_true_eq_false, not_false_eq_true, eq_self, or_true, true_or, or_false, false_or, if_true, if_false, Int.toNat_natCast, w_ite, Nat.add_zero, reduceCtorEq, ne_eq]; exact hQ')
    · subst e
      rw [show swT [40, 48, 56, 64] 73 0 4 = 73 from rfl]
      have s1 := fun {d : Nat} {Q : XO → Hp → Prop} => sp_1 (d := d) (Q := Q) (I := I) (L := L) (R := R) (G := G) (l := 1) hBk (by decide) (b4 1 (by decide)).1
      simp (disch := omega) only [q_115_0, q_115_1, q_115_2, q_115_3, q_115_4, q_115_7, q_115_8, q_115_40, q_115_41, q_115_44, q_115_47, q_115_48, q_115_49, q_115_52, q_115_55, q_115_56, q_115_57, q_115_60, q_115_63, q_115_64, q_115_65, q_115_68, q_115_69, q_115_72, q_115_73, q_115_74, q_115_77, q_115_78, q_115_81, q_115_e, va_rf_s, bz_0, bz_1, bz_ok, bb_ok, Nat.add_assoc, w_lt, w_add, w_sub, w_mul, w_div, em_def, w_eq, w_inT, ↓ilt_t, ↓ilt_f, ↓ieq_t, ↓ieq_f, ntT, w_b, w_ix, kx_v, kx_n, kl_n, kl_i, kl_r, kl_o, inA_i, inA_s, inA_b, inA_z, inA_l, inA_0, inA_4, inA_5, inA_6, inA_7, inA_8, inA_9, inA_10, al_0, al_1, al_2, al_4, al_5, al_98, bsP_2, bsP_3, wr_same, wr_wr, wr_ne, up_same, up_ne, Nat.reduceAdd, Int.reduceAdd, Int.reduceSub, Int.reduceMul, Int.reduceLT, Int.reduceLE, Int.reduceEq, Int.reduceNeg, Int.reduceToNat, Nat.reduceLT, Nat.reduceLeDiff, Nat.reduceEqDiff, ↓reduceIte, true_and, and_true, not_true_eq_false, not_false_eq_true, eq_self, or_true, true_or, or_false, false_or, if_true, if_false, Int.toNat_natCast, w_ite, Nat.add_zero, reduceCtorEq, ne_eq, hc, hBk.1]
      exact s1.mpr (by simp (disch := omega) only [q_115_0, q_115_1, q_115_2, q_115_3, q_115_4, q_115_7, q_115_8, q_115_40, q_115_41, q_115_44, q_115_47, q_115_48, q_115_49, q_115_52, q_115_55, q_115_56, q_115_57, q_115_60, q_115_63, q_115_64, q_115_65, q_115_68, q_115_69, q_115_72, q_115_73, q_115_74, q_115_77, q_115_78, q_115_81, q_115_e, va_rf_s, bz_0, bz_1, bz_ok, bb_ok, Nat.add_assoc, w_lt, w_add, w_sub, w_mul, w_div, em_def, w_eq, w_inT, ↓ilt_t, ↓ilt_f, ↓ieq_t, ↓ieq_f, ntT, w_b, w_ix, kx_v, kx_n, kl_n, kl_i, kl_r, kl_o, inA_i, inA_s, inA_b, inA_z, inA_l, inA_0, inA_4, inA_5, inA_6, inA_7, inA_8, inA_9, inA_10, al_0, al_1, al_2, al_4, al_5, al_98, bsP_2, bsP_3, wr_same, wr_wr, wr_ne, up_same, up_ne, Nat.reduceAdd, Int.reduceAdd, Int.reduceSub, Int.reduceMul, Int.reduceLT, Int.reduceLE, Int.reduceEq, Int.reduceNeg, Int.reduceToNat, Nat.reduceLT, Nat.reduceLeDiff, Nat.reduceEqDiff, ↓reduceIte, true_and, and_true, not_true_eq_false, not_false_eq_true, eq_self, or_true, true_or, or_false, false_or, if_true, if_false, Int.toNat_natCast, w_ite, Nat.add_zero, reduceCtorEq, ne_eq]; exact hQ')
  · rw [if_neg cx] at hQ
    have s146 := fun {d : Nat} {Q : XO → Hp → Prop} => sp_146x (d := d) (Q := Q) (S := S) (I := I) (L := L) (R := R) (G := G) (c := c) (v := x) (l := 0) (h := 4) hc hwg (by omega) hx.1 hx.2 (by decide) (by decide) (by decide) (by decide)
    simp (disch := omega) only [q_115_0, q_115_1, q_115_2, q_115_3, q_115_4, q_115_7, q_115_8, q_115_40, q_115_41, q_115_44, q_115_47, q_115_48, q_115_49, q_115_52, q_115_55, q_115_56, q_115_57, q_115_60, q_115_63, q_115_64, q_115_65, q_115_68, q_115_69, q_115_72, q_115_73, q_115_74, q_115_77, q_115_78, q_115_81, q_115_e, va_rf_s, bz_0, bz_1, bz_ok, bb_ok, Nat.add_assoc, w_lt, w_add, w_sub, w_mul, w_div, em_def, w_eq, w_inT, ↓ilt_t, ↓ilt_f, ↓ieq_t, ↓ieq_f, ntT, w_b, w_ix, kx_v, kx_n, kl_n, kl_i, kl_r, kl_o, inA_i, inA_s, inA_b, inA_z, inA_l, inA_0, inA_4, inA_5, inA_6, inA_7, inA_8, inA_9, inA_10, al_0, al_1, al_2, al_4, al_5, al_98, bsP_2, bsP_3, wr_same, wr_wr, wr_ne, up_same, up_ne, Nat.reduceAdd, Int.reduceAdd, Int.reduceSub, Int.reduceMul, Int.reduceLT, Int.reduceLE, Int.reduceEq, Int.reduceNeg, Int.reduceToNat, Nat.reduceLT, Nat.reduceLeDiff, Nat.reduceEqDiff, ↓reduceIte, true_and, and_true, not_true_eq_false, not_false_eq_true, eq_self, or_true, true_or, or_false, false_or, if_true, if_false, Int.toNat_natCast, w_ite, Nat.add_zero, reduceCtorEq, ne_eq, hc, s146, kx_t hk]
    exact CK.wro h (Rem.refl h) hf.2 hQ
theorem sp_118 {l n : Int} (h : CR S I L R G c lo s) (hf : few s) (hl : B32 l) (hn : B32 n) (hQ : CK S I L R G c lo Q (outX (rFits s l n).1) (rFits s l n).2) : XC (d + 2) 118 [.ref c, .int (w l), .int (w n)] (mk S I L R G) Q := by
  have hc := h.1.1
  have hms := h.2.2.2.2.2.2.2.2.2.2.2.1
  have hwg := h.2.2.2.2.2.2.2.2.2.2.2.2.1
  have hk : t_han 118 = [] := rfl
  unfold rFits at hQ
  by_cases cl : inL l
  · rw [if_pos cl] at hQ
    obtain ⟨m, rfl⟩ : ∃ m : Nat, l = m := ⟨l.toNat, by omega⟩
    have hm : m < 2 := by omega
    have s143 := fun {d : Nat} {Q : XO → Hp → Prop} => sp_143 (d := d) (Q := Q) (S := S) (I := I) (L := L) (R := R) (G := G) (c := c) hm hc
    by_cases cn : 0 ≤ n ∧ n ≤ 999999999
    · rw [if_pos cn] at hQ
      have hQ' := CK.ask h (Rem.refl h) hQ
      have s146 := fun {d : Nat} {Q : XO → Hp → Prop} => sp_146 (d := d) (Q := Q) (S := S) (I := I) (L := L) (R := R) (G := G) (c := c) (v := n) (l := 0) (h := 999999999) cn hn.1 hn.2 (by decide) (by decide) (by decide) (by decide)
      obtain ⟨k1, k2, k3⟩ := h.rank hm
      have s142 := fun {d : Nat} {Q : XO → Hp → Prop} => sp_142 (d := d) (Q := Q) (S := S) (I := I) (L := L) (R := R) (G := G) (c := c) hm hc k1.1
      have s82 := fun {d : Nat} {Q : XO → Hp → Prop} => sp_82 (d := d) (Q := Q) (I := I) (L := L) (G := G) k1.2.1 k2.1 cn.1 cn.2
      have hv := k1.2.1.1
      simp only [Nat.add_assoc] at s142 s82 hv
      simp (disch := omega) only [q_118_0, q_118_1, q_118_2, q_118_5, q_118_6, q_118_7, q_118_8, q_118_10, q_118_13, q_118_14, q_118_15, q_118_18, q_118_19, q_118_22, q_118_e, va_rf_s, bz_0, bz_1, bz_ok, bb_ok, Nat.add_assoc, w_lt, w_add, w_sub, w_mul, w_div, em_def, w_eq, w_inT, ↓ilt_t, ↓ilt_f, ↓ieq_t, ↓ieq_f, ntT, w_b, w_ix, kx_v, kx_n, kl_n, kl_i, kl_r, kl_o, inA_i, inA_s, inA_b, inA_z, inA_l, inA_0, inA_4, inA_5, inA_6, inA_7, inA_8, inA_9, inA_10, al_0, al_1, al_2, al_4, al_5, al_98, bsP_2, bsP_3, wr_same, wr_wr, wr_ne, up_same, up_ne, Nat.reduceAdd, Int.reduceAdd, Int.reduceSub, Int.reduceMul, Int.reduceLT, Int.reduceLE, Int.reduceEq, Int.reduceNeg, Int.reduceToNat, Nat.reduceLT, Nat.reduceLeDiff, Nat.reduceEqDiff, ↓reduceIte, true_and, and_true, not_true_eq_false, not_false_eq_true, eq_self, or_true, true_or, or_false, false_or, if_true, if_false, Int.toNat_natCast, w_ite, Nat.add_zero, reduceCtorEq, ne_eq, hc, s143, s146, s142, s82, hv]
      exact hQ'
    · rw [if_neg cn] at hQ
      have s146 := fun {d : Nat} {Q : XO → Hp → Prop} => sp_146x (d := d) (Q := Q) (S := S) (I := I) (L := L) (R := R) (G := G) (c := c) (v := n) (l := 0) (h := 999999999) hc hwg (by omega) hn.1 hn.2 (by decide) (by decide) (by decide) (by decide)
      simp (disch := omega) only [q_118_0, q_118_1, q_118_2, q_118_5, q_118_6, q_118_7, q_118_8, q_118_10, q_118_13, q_118_14, q_118_15, q_118_18, q_118_19, q_118_22, q_118_e, va_rf_s, bz_0, bz_1, bz_ok, bb_ok, Nat.add_assoc, w_lt, w_add, w_sub, w_mul, w_div, em_def, w_eq, w_inT, ↓ilt_t, ↓ilt_f, ↓ieq_t, ↓ieq_f, ntT, w_b, w_ix, kx_v, kx_n, kl_n, kl_i, kl_r, kl_o, inA_i, inA_s, inA_b, inA_z, inA_l, inA_0, inA_4, inA_5, inA_6, inA_7, inA_8, inA_9, inA_10, al_0, al_1, al_2, al_4, al_5, al_98, bsP_2, bsP_3, wr_same, wr_wr, wr_ne, up_same, up_ne, Nat.reduceAdd, Int.reduceAdd, Int.reduceSub, Int.reduceMul, Int.reduceLT, Int.reduceLE, Int.reduceEq, Int.reduceNeg, Int.reduceToNat, Nat.reduceLT, Nat.reduceLeDiff, Nat.reduceEqDiff, ↓reduceIte, true_and, and_true, not_true_eq_false, not_false_eq_true, eq_self, or_true, true_or, or_false, false_or, if_true, if_false, Int.toNat_natCast, w_ite, Nat.add_zero, reduceCtorEq, ne_eq, hc, s143, s146, kx_t hk]
      exact CK.wro h (Rem.refl h) hf.2 hQ
  · rw [if_neg cl] at hQ
    have s143 := fun {d : Nat} {Q : XO → Hp → Prop} => sp_143x (d := d) (Q := Q) (S := S) (I := I) (L := L) (R := R) (G := G) (c := c) (v := l) hc hms (by omega) hl.1 hl.2
    simp (disch := omega) only [q_118_0, q_118_1, q_118_2, q_118_5, q_118_6, q_118_7, q_118_8, q_118_10, q_118_13, q_118_14, q_118_15, q_118_18, q_118_19, q_118_22, q_118_e, va_rf_s, bz_0, bz_1, bz_ok, bb_ok, Nat.add_assoc, w_lt, w_add, w_sub, w_mul, w_div, em_def, w_eq, w_inT, ↓ilt_t, ↓ilt_f, ↓ieq_t, ↓ieq_f, ntT, w_b, w_ix, kx_v, kx_n, kl_n, kl_i, kl_r, kl_o, inA_i, inA_s, inA_b, inA_z, inA_l, inA_0, inA_4, inA_5, inA_6, inA_7, inA_8, inA_9, inA_10, al_0, al_1, al_2, al_4, al_5, al_98, bsP_2, bsP_3, wr_same, wr_wr, wr_ne, up_same, up_ne, Nat.reduceAdd, Int.reduceAdd, Int.reduceSub, Int.reduceMul, Int.reduceLT, Int.reduceLE, Int.reduceEq, Int.reduceNeg, Int.reduceToNat, Nat.reduceLT, Nat.reduceLeDiff, Nat.reduceEqDiff, ↓reduceIte, true_and, and_true, not_true_eq_false, not_false_eq_true, eq_self, or_true, true_or, or_false, false_or, if_true, if_false, Int.toNat_natCast, w_ite, Nat.add_zero, reduceCtorEq, ne_eq, hc, s143, kx_t hk]
    exact CK.mis h (Rem.refl h) hf.1 hQ
end

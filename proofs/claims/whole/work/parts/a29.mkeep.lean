/-! the model remembers -/
def HkF (I I' : MI) (m : Nat) : Prop := (∀ x, x ≠ m → x ≠ m + 3 → x ≠ m + 4 → (x < m + 100 ∨ (m + 844 ≤ x ∧ x < m + 1479) ∨ m + 6541 ≤ x) → I' x = I x) ∧ (∀ j, j < 3 → I' (m + 3) j = I (m + 3) j) ∧ ∀ j, j ≠ 14 → j ≠ 22 → I' m j = I m j
theorem HkF.trans {I I1 I2 : MI} {m : Nat} (h : HkF I I1 m) (h' : HkF I1 I2 m) : HkF I I2 m := ⟨fun x a b c d => (h'.1 x a b c d).trans (h.1 x a b c d), fun j hj => (h'.2.1 j hj).trans (h.2.1 j hj), fun j a b => (h'.2.2 j a b).trans (h.2.2 j a b)⟩
theorem StF.hk {I I' : MI} {m s : Nat} (h : StF I I' m s) (h3 : 3 ≤ s) (hs : s < 27) : HkF I I' m := ⟨fun x a b c d => h.1 x b (by omega) (by omega), fun j hj => h.2 j (by omega), fun j a b => by rw [h.1 m (by omega) (by omega) (by omega)]⟩
theorem RsM.hk {I I' : MI} {m s : Nat} {rs : List Rl} (h : RsM I m s rs) (hF : HkF I I' m) (hs : s < 3) : RsM I' m s rs := by
  have h30 := h.2.1
  exact ⟨by rw [hF.2.1 s hs]; exact h.1, h.2.1, fun k hk => (h.2.2 k hk).congr (hF.1 _ (by omega) (by omega) (by omega) (by omega)) (fun i hi => hF.1 _ (by omega) (by omega) (by omega) (by omega))⟩
/-- a book's rules at a slot of the history -/
def BkM (I : MI) (m q : Nat) (b : Bk) : Prop := I (m + 4) q = w b.1 ∧ ∀ l, l < 2 → RsM I m (3 + 2 * q + l) (b.2 l)
theorem BkM.st {I I' : MI} {m q s : Nat} {b : Bk} (h : BkM I m q b) (hF : StF I I' m s) (hq : q < 12) (hs : s < 27) (hne : s < 3 + 2 * q ∨ 3 + 2 * q + 1 < s) : BkM I' m q b :=
  ⟨by rw [hF.1 _ (by omega) (by omega) (by omega)]; exact h.1, fun l hl => (h.2 l hl).st hF (by omega) hs (by omega)⟩
section
variable {d : Nat} {Q : XO → Hp → Prop} {S : SH} {I : MI} {L : ML} {R : MR} {G : MG} {A : Hp}
variable {m : Nat} {s : St} {two : Bool}
/-- the last step: the state is set down at the slot n -/
theorem sp_179b {n : Nat} {b : Bk} {o1 o2 : Option Value} (hL : MLay S R m) (hn : n < 12) (h14 : I m 14 = w n) (h13 : I m 13 = w b.1) (hb : ∀ l, l < 2 → RsM I m l (b.2 l))
    (hQ : ∀ I' : MI, HkF I I' m → I' m 14 = w (n + 1 : Nat) → I' m 22 = I m 22 → BkM I' m n b → (∀ q b', q < 12 → q ≠ n → BkM I m q b' → BkM I' m q b') → Q (.inl none) (mk S I' L R G)) :
    XX (d + 2) 179 85 [some (.ref m), o1, o2] [] (mk S I L R G) Q := by
  have hm := hL.1
  have hS4 := hL.2.2.2.2.1
  have u0 : ∀ x, x ≠ m + 4 → wr I (m + 4) (up (I (m + 4)) n (w b.1)) x = I x := fun x hx => wr_ne hx
  have u1 : wr I (m + 4) (up (I (m + 4)) n (w b.1)) (m + 4) = up (I (m + 4)) n (w b.1) := wr_same
  rw [q_179_85]
  simp (disch := omega) only [q_179_0, q_179_1, q_179_2, q_179_5, q_179_6, q_179_9, q_179_11, q_179_14, q_179_15, q_179_17, q_179_19, q_179_22, q_179_23, q_179_26, q_179_27, q_179_28, q_179_29, q_179_30, q_179_33, q_179_34, q_179_35, q_179_36, q_179_37, q_179_39, q_179_40, q_179_43, q_179_44, q_179_45, q_179_46, q_179_47, q_179_48, q_179_49, q_179_50, q_179_51, q_179_52, q_179_53, q_179_54, q_179_55, q_179_56, q_179_57, q_179_58, q_179_59, q_179_60, q_179_63, q_179_66, q_179_69, q_179_72, q_179_75, q_179_76, q_179_77, q_179_80, q_179_81, q_179_82, q_179_86, q_179_89, q_179_90, q_179_93, q_179_94, q_179_97, q_179_98, q_179_99, q_179_101, q_179_102, q_179_105, q_179_106, q_179_107, q_179_108, q_179_109, q_179_110, q_179_113, q_179_114, q_179_115, q_179_116, q_179_117, q_179_120, q_179_123, q_179_126, q_179_127, q_179_128, q_179_131, q_179_132, q_179_133, q_179_136, q_179_e, va_rf_s, bz_0, bz_1, bz_ok, bb_ok, Nat.add_assoc, w_lt, w_add, w_sub, w_mul, w_div, em_def, w_eq, w_inT, ↓ilt_t, ↓ilt_f, ↓ieq_t, ↓ieq_f, ntT, w_b, w_ix, kx_v, kx_n, kl_n, kl_i, kl_r, kl_o, inA_i, inA_s, inA_b, inA_z, inA_l, inA_0, inA_4, inA_5, inA_6, inA_7, inA_8, inA_9, inA_10, al_0, al_1, al_2, al_4, al_5, al_98, bsP_2, bsP_3, wr_same, wr_wr, wr_ne, up_same, up_ne, Nat.reduceAdd, Int.reduceAdd, Int.reduceSub, Int.reduceMul, Int.reduceLT, Int.reduceLE, Int.reduceEq, Int.reduceNeg, Int.reduceToNat, Nat.reduceLT, Nat.reduceLeDiff, Nat.reduceEqDiff, ↓reduceIte, true_and, and_true, not_true_eq_false, not_false_eq_true, eq_self, or_true, true_or, or_false, false_or, if_true, if_false, Int.toNat_natCast, w_ite, Nat.add_zero, reduceCtorEq, ne_eq, hm, h14, h13, hS4]
  generalize wr I (m + 4) (up (I (m + 4)) n (w b.1)) = I1 at u0 u1 ⊢
  have h141 : I1 m 14 = w n := by rw [u0 _ (by omega)]; exact h14
  have hb1 : ∀ l, l < 2 → RsM I1 m l (b.2 l) := fun l hl => by
    have h30 := (hb l hl).2.1
    exact ⟨by rw [u0 _ (by omega)]; exact (hb l hl).1, h30, fun k hk => ((hb l hl).2.2 k hk).congr (u0 _ (by omega)) (fun i hi => u0 _ (by omega))⟩
  have hF01 : HkF I I1 m := ⟨fun x a b c d => u0 x c, fun j hj => by rw [u0 _ (by omega)], fun j a b => by rw [u0 _ (by omega)]⟩
  have hO1 : ∀ q b', q < 12 → q ≠ n → BkM I m q b' → BkM I1 m q b' := fun q b' hq hqn hB => ⟨by rw [u1, up_ne hqn]; exact hB.1, fun l hl => by
    have h30 := (hB.2 l hl).2.1
    exact ⟨by rw [u0 _ (by omega)]; exact (hB.2 l hl).1, h30, fun k hk => ((hB.2 l hl).2.2 k hk).congr (u0 _ (by omega)) (fun i hi => u0 _ (by omega))⟩⟩
  -- the two languages
  have e0 : (3 + 2 * (n : Int) + (0 : Nat)) = ((3 + 2 * n + 0 : Nat) : Int) := by omega
  have e1 : (3 + 2 * (n : Int) + 1) = ((3 + 2 * n + 1 : Nat) : Int) := by omega
  have s0 := fun {d : Nat} {Q : XO → Hp → Prop} => sp_174 (d := d) (Q := Q) (I := I1) (L := L) (G := G) (s1 := 0) (s2 := 3 + 2 * n + 0) (rs := b.2 0) hL (by decide) (by omega) (by omega) (hb1 0 (by decide))
  rw [← e0] at s0
  rw [q_179_100]
  simp (disch := omega) only [q_179_0, q_179_1, q_179_2, q_179_5, q_179_6, q_179_9, q_179_11, q_179_14, q_179_15, q_179_17, q_179_19, q_179_22, q_179_23, q_179_26, q_179_27, q_179_28, q_179_29, q_179_30, q_179_33, q_179_34, q_179_35, q_179_36, q_179_37, q_179_39, q_179_40, q_179_43, q_179_44, q_179_45, q_179_46, q_179_47, q_179_48, q_179_49, q_179_50, q_179_51, q_179_52, q_179_53, q_179_54, q_179_55, q_179_56, q_179_57, q_179_58, q_179_59, q_179_60, q_179_63, q_179_66, q_179_69, q_179_72, q_179_75, q_179_76, q_179_77, q_179_80, q_179_81, q_179_82, q_179_86, q_179_89, q_179_90, q_179_93, q_179_94, q_179_97, q_179_98, q_179_99, q_179_101, q_179_102, q_179_105, q_179_106, q_179_107, q_179_108, q_179_109, q_179_110, q_179_113, q_179_114, q_179_115, q_179_116, q_179_117, q_179_120, q_179_123, q_179_126, q_179_127, q_179_128, q_179_131, q_179_132, q_179_133, q_179_136, q_179_e, va_rf_s, bz_0, bz_1, bz_ok, bb_ok, Nat.add_assoc, w_lt, w_add, w_sub, w_mul, w_div, em_def, w_eq, w_inT, ↓ilt_t, ↓ilt_f, ↓ieq_t, ↓ieq_f, ntT, w_b, w_ix, kx_v, kx_n, kl_n, kl_i, kl_r, kl_o, inA_i, inA_s, inA_b, inA_z, inA_l, inA_0, inA_4, inA_5, inA_6, inA_7, inA_8, inA_9, inA_10, al_0, al_1, al_2, al_4, al_5, al_98, bsP_2, bsP_3, wr_same, wr_wr, wr_ne, up_same, up_ne, Nat.reduceAdd, Int.reduceAdd, Int.reduceSub, Int.reduceMul, Int.reduceLT, Int.reduceLE, Int.reduceEq, Int.reduceNeg, Int.reduceToNat, Nat.reduceLT, Nat.reduceLeDiff, Nat.reduceEqDiff, ↓reduceIte, true_and, and_true, not_true_eq_false, not_false_eq_true, eq_self, or_true, true_or, or_false, false_or, if_true, if_false, Int.toNat_natCast, w_ite, Nat.add_zero, reduceCtorEq, ne_eq, hm, h141]
  refine s0 (fun I2 hF2 hR2 => ?_)
  have h142 : I2 m 14 = w n := by rw [hF2.1 m (by omega) (by omega) (by omega)]; exact h141
  have s1 := fun {d : Nat} {Q : XO → Hp → Prop} => sp_174 (d := d) (Q := Q) (I := I2) (L := L) (G := G) (s1 := 1) (s2 := 3 + 2 * n + 1) (rs := b.2 1) hL (by decide) (by omega) (by omega) ((hb1 1 (by decide)).st hF2 (by omega) (by omega) (by omega))
  rw [← e1] at s1
  simp (disch := omega) only [q_179_0, q_179_1, q_179_2, q_179_5, q_179_6, q_179_9, q_179_11, q_179_14, q_179_15, q_179_17, q_179_19, q_179_22, q_179_23, q_179_26, q_179_27, q_179_28, q_179_29, q_179_30, q_179_33, q_179_34, q_179_35, q_179_36, q_179_37, q_179_39, q_179_40, q_179_43, q_179_44, q_179_45, q_179_46, q_179_47, q_179_48, q_179_49, q_179_50, q_179_51, q_179_52, q_179_53, q_179_54, q_179_55, q_179_56, q_179_57, q_179_58, q_179_59, q_179_60, q_179_63, q_179_66, q_179_69, q_179_72, q_179_75, q_179_76, q_179_77, q_179_80, q_179_81, q_179_82, q_179_86, q_179_89, q_179_90, q_179_93, q_179_94, q_179_97, q_179_98, q_179_99, q_179_101, q_179_102, q_179_105, q_179_106, q_179_107, q_179_108, q_179_109, q_179_110, q_179_113, q_179_114, q_179_115, q_179_116, q_179_117, q_179_120, q_179_123, q_179_126, q_179_127, q_179_128, q_179_131, q_179_132, q_179_133, q_179_136, q_179_e, va_rf_s, bz_0, bz_1, bz_ok, bb_ok, Nat.add_assoc, w_lt, w_add, w_sub, w_mul, w_div, em_def, w_eq, w_inT, ↓ilt_t, ↓ilt_f, ↓ieq_t, ↓ieq_f, ntT, w_b, w_ix, kx_v, kx_n, kl_n, kl_i, kl_r, kl_o, inA_i, inA_s, inA_b, inA_z, inA_l, inA_0, inA_4, inA_5, inA_6, inA_7, inA_8, inA_9, inA_10, al_0, al_1, al_2, al_4, al_5, al_98, bsP_2, bsP_3, wr_same, wr_wr, wr_ne, up_same, up_ne, Nat.reduceAdd, Int.reduceAdd, Int.reduceSub, Int.reduceMul, Int.reduceLT, Int.reduceLE, Int.reduceEq, Int.reduceNeg, Int.reduceToNat, Nat.reduceLT, Nat.reduceLeDiff, Nat.reduceEqDiff, ↓reduceIte, true_and, and_true, not_true_eq_false, not_false_eq_true, eq_self, or_true, true_or, or_false, false_or, if_true, if_false, Int.toNat_natCast, w_ite, Nat.add_zero, reduceCtorEq, ne_eq]
  rw [q_179_100]
  simp (disch := omega) only [q_179_0, q_179_1, q_179_2, q_179_5, q_179_6, q_179_9, q_179_11, q_179_14, q_179_15, q_179_17, q_179_19, q_179_22, q_179_23, q_179_26, q_179_27, q_179_28, q_179_29, q_179_30, q_179_33, q_179_34, q_179_35, q_179_36, q_179_37, q_179_39, q_179_40, q_179_43, q_179_44, q_179_45, q_179_46, q_179_47, q_179_48, q_179_49, q_179_50, q_179_51, q_179_52, q_179_53, q_179_54, q_179_55, q_179_56, q_179_57, q_179_58, q_179_59, q_179_60, q_179_63, q_179_66, q_179_69, q_179_72, q_179_75, q_179_76, q_179_77, q_179_80, q_179_81, q_179_82, q_179_86, q_179_89, q_179_90, q_179_93, q_179_94, q_179_97, q_179_98, q_179_99, q_179_101, q_179_102, q_179_105, q_179_106, q_179_107, q_179_108, q_179_109, q_179_110, q_179_113, q_179_114, q_179_115, q_179_116, q_179_117, q_179_120, q_179_123, q_179_126, q_179_127, q_179_128, q_179_131, q_179_132, q_179_133, q_179_136, q_179_e, va_rf_s, bz_0, bz_1, bz_ok, bb_ok, Nat.add_assoc, w_lt, w_add, w_sub, w_mul, w_div, em_def, w_eq, w_inT, ↓ilt_t, ↓ilt_f, ↓ieq_t, ↓ieq_f, ntT, w_b, w_ix, kx_v, kx_n, kl_n, kl_i, kl_r, kl_o, inA_i, inA_s, inA_b, inA_z, inA_l, inA_0, inA_4, inA_5, inA_6, inA_7, inA_8, inA_9, inA_10, al_0, al_1, al_2, al_4, al_5, al_98, bsP_2, bsP_3, wr_same, wr_wr, wr_ne, up_same, up_ne, Nat.reduceAdd, Int.reduceAdd, Int.reduceSub, Int.reduceMul, Int.reduceLT, Int.reduceLE, Int.reduceEq, Int.reduceNeg, Int.reduceToNat, Nat.reduceLT, Nat.reduceLeDiff, Nat.reduceEqDiff, ↓reduceIte, true_and, and_true, not_true_eq_false, not_false_eq_true, eq_self, or_true, true_or, or_false, false_or, if_true, if_false, Int.toNat_natCast, w_ite, Nat.add_zero, reduceCtorEq, ne_eq, hm, h142]
  refine s1 (fun I3 hF3 hR3 => ?_)
  have h143 : I3 m 14 = w n := by rw [hF3.1 m (by omega) (by omega) (by omega)]; exact h142
  simp (disch := omega) only [q_179_0, q_179_1, q_179_2, q_179_5, q_179_6, q_179_9, q_179_11, q_179_14, q_179_15, q_179_17, q_179_19, q_179_22, q_179_23, q_179_26, q_179_27, q_179_28, q_179_29, q_179_30, q_179_33, q_179_34, q_179_35, q_179_36, q_179_37, q_179_39, q_179_40, q_179_43, q_179_44, q_179_45, q_179_46, q_179_47, q_179_48, q_179_49, q_179_50, q_179_51, q_179_52, q_179_53, q_179_54, q_179_55, q_179_56, q_179_57, q_179_58, q_179_59, q_179_60, q_179_63, q_179_66, q_179_69, q_179_72, q_179_75, q_179_76, q_179_77, q_179_80, q_179_81, q_179_82, q_179_86, q_179_89, q_179_90, q_179_93, q_179_94, q_179_97, q_179_98, q_179_99, q_179_101, q_179_102, q_179_105, q_179_106, q_179_107, q_179_108, q_179_109, q_179_110, q_179_113, q_179_114, q_179_115, q_179_116, q_179_117, q_179_120, q_179_123, q_179_126, q_179_127, q_179_128, q_179_131, q_179_132, q_179_133, q_179_136, q_179_e, va_rf_s, bz_0, bz_1, bz_ok, bb_ok, Nat.add_assoc, w_lt, w_add, w_sub, w_mul, w_div, em_def, w_eq, w_inT, ↓ilt_t, ↓ilt_f, ↓ieq_t, ↓ieq_f, ntT, w_b, w_ix, kx_v, kx_n, kl_n, kl_i, kl_r, kl_o, inA_i, inA_s, inA_b, inA_z, inA_l, inA_0, inA_4, inA_5, inA_6, inA_7, inA_8, inA_9, inA_10, al_0, al_1, al_2, al_4, al_5, al_98, bsP_2, bsP_3, wr_same, wr_wr, wr_ne, up_same, up_ne, Nat.reduceAdd, Int.reduceAdd, Int.reduceSub, Int.reduceMul, Int.reduceLT, Int.reduceLE, Int.reduceEq, Int.reduceNeg, Int.reduceToNat, Nat.reduceLT, Nat.reduceLeDiff, Nat.reduceEqDiff, ↓reduceIte, true_and, and_true, not_true_eq_false, not_false_eq_true, eq_self, or_true, true_or, or_false, false_or, if_true, if_false, Int.toNat_natCast, w_ite, Nat.add_zero, reduceCtorEq, ne_eq]
  rw [q_179_100]
  simp (disch := omega) only [q_179_0, q_179_1, q_179_2, q_179_5, q_179_6, q_179_9, q_179_11, q_179_14, q_179_15, q_179_17, q_179_19, q_179_22, q_179_23, q_179_26, q_179_27, q_179_28, q_179_29, q_179_30, q_179_33, q_179_34, q_179_35, q_179_36, q_179_37, q_179_39, q_179_40, q_179_43, q_179_44, q_179_45, q_179_46, q_179_47, q_179_48, q_179_49, q_179_50, q_179_51, q_179_52, q_179_53, q_179_54, q_179_55, q_179_56, q_179_57, q_179_58, q_179_59, q_179_60, q_179_63, q_179_66, q_179_69, q_179_72, q_179_75, q_179_76, q_179_77, q_179_80, q_179_81, q_179_82, q_179_86, q_179_89, q_179_90, q_179_93, q_179_94, q_179_97, q_179_98, q_179_99, q_179_101, q_179_102, q_179_105, q_179_106, q_179_107, q_179_108, q_179_109, q_179_110, q_179_113, q_179_114, q_179_115, q_179_116, q_179_117, q_179_120, q_179_123, q_179_126, q_179_127, q_179_128, q_179_131, q_179_132, q_179_133, q_179_136, q_179_e, va_rf_s, bz_0, bz_1, bz_ok, bb_ok, Nat.add_assoc, w_lt, w_add, w_sub, w_mul, w_div, em_def, w_eq, w_inT, ↓ilt_t, ↓ilt_f, ↓ieq_t, ↓ieq_f, ntT, w_b, w_ix, kx_v, kx_n, kl_n, kl_i, kl_r, kl_o, inA_i, inA_s, inA_b, inA_z, inA_l, inA_0, inA_4, inA_5, inA_6, inA_7, inA_8, inA_9, inA_10, al_0, al_1, al_2, al_4, al_5, al_98, bsP_2, bsP_3, wr_same, wr_wr, wr_ne, up_same, up_ne, Nat.reduceAdd, Int.reduceAdd, Int.reduceSub, Int.reduceMul, Int.reduceLT, Int.reduceLE, Int.reduceEq, Int.reduceNeg, Int.reduceToNat, Nat.reduceLT, Nat.reduceLeDiff, Nat.reduceEqDiff, ↓reduceIte, true_and, and_true, not_true_eq_false, not_false_eq_true, eq_self, or_true, true_or, or_false, false_or, if_true, if_false, Int.toNat_natCast, w_ite, Nat.add_zero, reduceCtorEq, ne_eq, hm, h143]
  have v0 : ∀ x, x ≠ m → wr I3 m (up (I3 m) 14 (w ((n : Int) + 1))) x = I3 x := fun x hx => wr_ne hx
  have v1 : ∀ j, j ≠ 14 → wr I3 m (up (I3 m) 14 (w ((n : Int) + 1))) m j = I3 m j := fun j hj => by rw [wr_same, up_ne hj]
  have v2 : wr I3 m (up (I3 m) 14 (w ((n : Int) + 1))) m 14 = w (n + 1 : Nat) := by rw [wr_same, up_same]; rfl
  generalize wr I3 m (up (I3 m) 14 (w ((n : Int) + 1))) = I4 at v0 v1 v2 ⊢
  have kp : ∀ s rs, s < 27 → RsM I3 m s rs → RsM I4 m s rs := fun s rs hs hR => by
    have h30 := hR.2.1
    exact ⟨by rw [v0 _ (by omega)]; exact hR.1, h30, fun k hk => (hR.2.2 k hk).congr (v0 _ (by omega)) (fun i hi => v0 _ (by omega))⟩
  have hF34 : HkF I3 I4 m := ⟨fun x a _ _ _ => v0 x a, fun j hj => by rw [v0 _ (by omega)], fun j a b => v1 j a⟩
  refine hQ I4 (((hF01.trans (hF2.hk (by omega) (by omega))).trans (hF3.hk (by omega) (by omega))).trans hF34) v2 ?_ ?_ ?_
  · rw [v1 _ (by decide), hF3.1 m (by omega) (by omega) (by omega), hF2.1 m (by omega) (by omega) (by omega), u0 _ (by omega)]
  · refine ⟨by rw [v0 _ (by omega), hF3.1 _ (by omega) (by omega) (by omega), hF2.1 _ (by omega) (by omega) (by omega), u1, up_same], fun l hl => kp _ _ (by omega) ?_⟩
    have hl2 : l = 0 ∨ l = 1 := by omega
    rcases hl2 with rfl | rfl
    · exact hR2.st hF3 (by omega) (by omega) (by omega)
    · exact hR3
  · intro q b' hq hqn hB
    have hB3 := ((hO1 q b' hq hqn hB).st hF2 hq (by omega) (by omega)).st hF3 hq (by omega) (by omega)
    exact ⟨by rw [v0 _ (by omega)]; exact hB3.1, fun l hl => kp _ _ (by omega) (hB3.2 l hl)⟩
/-- an older state goes down by one slot -/
theorem sp_179s {i : Nat} {b : Bk} {o2 : Option Value} (hL : MLay S R m) (h1 : 1 ≤ i) (hi : i < 12) (hB : BkM I m i b)
    (hQ : ∀ (I' : MI) (o2 : Option Value), HkF I I' m → I' m = I m → BkM I' m (i - 1) b → (∀ q b', q < 12 → q ≠ i - 1 → BkM I m q b' → BkM I' m q b') → XX (d + 2) 179 16 [some (.ref m), some (.int (w ((i : Int) + 1))), o2] [] (mk S I' L R G) Q) :
    XX (d + 2) 179 16 [some (.ref m), some (.int (w i)), o2] [] (mk S I L R G) Q := by
  have hm := hL.1
  have hS4 := hL.2.2.2.2.1
  have ei : ((i : Int) - 1).toNat = i - 1 := by omega
  have eb := hB.1
  have u0 : ∀ x, x ≠ m + 4 → wr I (m + 4) (up (I (m + 4)) (i - 1) (w b.1)) x = I x := fun x hx => wr_ne hx
  have u1 : wr I (m + 4) (up (I (m + 4)) (i - 1) (w b.1)) (m + 4) = up (I (m + 4)) (i - 1) (w b.1) := wr_same
  rw [q_179_16]
  simp (disch := omega) only [q_179_0, q_179_1, q_179_2, q_179_5, q_179_6, q_179_9, q_179_11, q_179_14, q_179_15, q_179_17, q_179_19, q_179_22, q_179_23, q_179_26, q_179_27, q_179_28, q_179_29, q_179_30, q_179_33, q_179_34, q_179_35, q_179_36, q_179_37, q_179_39, q_179_40, q_179_43, q_179_44, q_179_45, q_179_46, q_179_47, q_179_48, q_179_49, q_179_50, q_179_51, q_179_52, q_179_53, q_179_54, q_179_55, q_179_56, q_179_57, q_179_58, q_179_59, q_179_60, q_179_63, q_179_66, q_179_69, q_179_72, q_179_75, q_179_76, q_179_77, q_179_80, q_179_81, q_179_82, q_179_86, q_179_89, q_179_90, q_179_93, q_179_94, q_179_97, q_179_98, q_179_99, q_179_101, q_179_102, q_179_105, q_179_106, q_179_107, q_179_108, q_179_109, q_179_110, q_179_113, q_179_114, q_179_115, q_179_116, q_179_117, q_179_120, q_179_123, q_179_126, q_179_127, q_179_128, q_179_131, q_179_132, q_179_133, q_179_136, q_179_e, va_rf_s, bz_0, bz_1, bz_ok, bb_ok, Nat.add_assoc, w_lt, w_add, w_sub, w_mul, w_div, em_def, w_eq, w_inT, ↓ilt_t, ↓ilt_f, ↓ieq_t, ↓ieq_f, ntT, w_b, w_ix, kx_v, kx_n, kl_n, kl_i, kl_r, kl_o, inA_i, inA_s, inA_b, inA_z, inA_l, inA_0, inA_4, inA_5, inA_6, inA_7, inA_8, inA_9, inA_10, al_0, al_1, al_2, al_4, al_5, al_98, bsP_2, bsP_3, wr_same, wr_wr, wr_ne, up_same, up_ne, Nat.reduceAdd, Int.reduceAdd, Int.reduceSub, Int.reduceMul, Int.reduceLT, Int.reduceLE, Int.reduceEq, Int.reduceNeg, Int.reduceToNat, Nat.reduceLT, Nat.reduceLeDiff, Nat.reduceEqDiff, ↓reduceIte, true_and, and_true, not_true_eq_false, not_false_eq_true, eq_self, or_true, true_or, or_false, false_or, if_true, if_false, Int.toNat_natCast, w_ite, Nat.add_zero, reduceCtorEq, ne_eq, hm, hS4, eb, ei]
  generalize wr I (m + 4) (up (I (m + 4)) (i - 1) (w b.1)) = I1 at u0 u1 ⊢
  have hF01 : HkF I I1 m := ⟨fun x a b c d => u0 x c, fun j hj => by rw [u0 _ (by omega)], fun j a b => by rw [u0 _ (by omega)]⟩
  have kp : ∀ s rs, s < 27 → RsM I m s rs → RsM I1 m s rs := fun s rs hs hR => by
    have h30 := hR.2.1
    exact ⟨by rw [u0 _ (by omega)]; exact hR.1, h30, fun k hk => (hR.2.2 k hk).congr (u0 _ (by omega)) (fun i hi => u0 _ (by omega))⟩
  have e0 : (3 + 2 * (i : Int)) = ((3 + 2 * i + 0 : Nat) : Int) := by omega
  have e0' : (3 + 2 * (i : Int) - 2) = ((3 + 2 * (i - 1) + 0 : Nat) : Int) := by omega
  have e1 : (3 + 2 * (i : Int) + 1) = ((3 + 2 * i + 1 : Nat) : Int) := by omega
  have e1' : (3 + 2 * (i : Int) - 2 + 1) = ((3 + 2 * (i - 1) + 1 : Nat) : Int) := by omega
  have s0 := fun {d : Nat} {Q : XO → Hp → Prop} => sp_174 (d := d) (Q := Q) (I := I1) (L := L) (G := G) (s1 := 3 + 2 * i + 0) (s2 := 3 + 2 * (i - 1) + 0) (rs := b.2 0) hL (by omega) (by omega) (by omega) (kp _ _ (by omega) (hB.2 0 (by decide)))
  rw [q_179_38]
  simp (disch := omega) only [q_179_0, q_179_1, q_179_2, q_179_5, q_179_6, q_179_9, q_179_11, q_179_14, q_179_15, q_179_17, q_179_19, q_179_22, q_179_23, q_179_26, q_179_27, q_179_28, q_179_29, q_179_30, q_179_33, q_179_34, q_179_35, q_179_36, q_179_37, q_179_39, q_179_40, q_179_43, q_179_44, q_179_45, q_179_46, q_179_47, q_179_48, q_179_49, q_179_50, q_179_51, q_179_52, q_179_53, q_179_54, q_179_55, q_179_56, q_179_57, q_179_58, q_179_59, q_179_60, q_179_63, q_179_66, q_179_69, q_179_72, q_179_75, q_179_76, q_179_77, q_179_80, q_179_81, q_179_82, q_179_86, q_179_89, q_179_90, q_179_93, q_179_94, q_179_97, q_179_98, q_179_99, q_179_101, q_179_102, q_179_105, q_179_106, q_179_107, q_179_108, q_179_109, q_179_110, q_179_113, q_179_114, q_179_115, q_179_116, q_179_117, q_179_120, q_179_123, q_179_126, q_179_127, q_179_128, q_179_131, q_179_132, q_179_133, q_179_136, q_179_e, va_rf_s, bz_0, bz_1, bz_ok, bb_ok, Nat.add_assoc, w_lt, w_add, w_sub, w_mul, w_div, em_def, w_eq, w_inT, ↓ilt_t, ↓ilt_f, ↓ieq_t, ↓ieq_f, ntT, w_b, w_ix, kx_v, kx_n, kl_n, kl_i, kl_r, kl_o, inA_i, inA_s, inA_b, inA_z, inA_l, inA_0, inA_4, inA_5, inA_6, inA_7, inA_8, inA_9, inA_10, al_0, al_1, al_2, al_4, al_5, al_98, bsP_2, bsP_3, wr_same, wr_wr, wr_ne, up_same, up_ne, Nat.reduceAdd, Int.reduceAdd, Int.reduceSub, Int.reduceMul, Int.reduceLT, Int.reduceLE, Int.reduceEq, Int.reduceNeg, Int.reduceToNat, Nat.reduceLT, Nat.reduceLeDiff, Nat.reduceEqDiff, ↓reduceIte, true_and, and_true, not_true_eq_false, not_false_eq_true, eq_self, or_true, true_or, or_false, false_or, if_true, if_false, Int.toNat_natCast, w_ite, Nat.add_zero, reduceCtorEq, ne_eq, hm, Int.add_zero]
  rw [← e0, ← e0'] at s0
  refine s0 (fun I2 hF2 hR2 => ?_)
  have s1 := fun {d : Nat} {Q : XO → Hp → Prop} => sp_174 (d := d) (Q := Q) (I := I2) (L := L) (G := G) (s1 := 3 + 2 * i + 1) (s2 := 3 + 2 * (i - 1) + 1) (rs := b.2 1) hL (by omega) (by omega) (by omega) ((kp _ _ (by omega) (hB.2 1 (by decide))).st hF2 (by omega) (by omega) (by omega))
  rw [← e1, ← e1'] at s1
  simp (disch := omega) only [q_179_0, q_179_1, q_179_2, q_179_5, q_179_6, q_179_9, q_179_11, q_179_14, q_179_15, q_179_17, q_179_19, q_179_22, q_179_23, q_179_26, q_179_27, q_179_28, q_179_29, q_179_30, q_179_33, q_179_34, q_179_35, q_179_36, q_179_37, q_179_39, q_179_40, q_179_43, q_179_44, q_179_45, q_179_46, q_179_47, q_179_48, q_179_49, q_179_50, q_179_51, q_179_52, q_179_53, q_179_54, q_179_55, q_179_56, q_179_57, q_179_58, q_179_59, q_179_60, q_179_63, q_179_66, q_179_69, q_179_72, q_179_75, q_179_76, q_179_77, q_179_80, q_179_81, q_179_82, q_179_86, q_179_89, q_179_90, q_179_93, q_179_94, q_179_97, q_179_98, q_179_99, q_179_101, q_179_102, q_179_105, q_179_106, q_179_107, q_179_108, q_179_109, q_179_110, q_179_113, q_179_114, q_179_115, q_179_116, q_179_117, q_179_120, q_179_123, q_179_126, q_179_127, q_179_128, q_179_131, q_179_132, q_179_133, q_179_136, q_179_e, va_rf_s, bz_0, bz_1, bz_ok, bb_ok, Nat.add_assoc, w_lt, w_add, w_sub, w_mul, w_div, em_def, w_eq, w_inT, ↓ilt_t, ↓ilt_f, ↓ieq_t, ↓ieq_f, ntT, w_b, w_ix, kx_v, kx_n, kl_n, kl_i, kl_r, kl_o, inA_i, inA_s, inA_b, inA_z, inA_l, inA_0, inA_4, inA_5, inA_6, inA_7, inA_8, inA_9, inA_10, al_0, al_1, al_2, al_4, al_5, al_98, bsP_2, bsP_3, wr_same, wr_wr, wr_ne, up_same, up_ne, Nat.reduceAdd, Int.reduceAdd, Int.reduceSub, Int.reduceMul, Int.reduceLT, Int.reduceLE, Int.reduceEq, Int.reduceNeg, Int.reduceToNat, Nat.reduceLT, Nat.reduceLeDiff, Nat.reduceEqDiff, ↓reduceIte, true_and, and_true, not_true_eq_false, not_false_eq_true, eq_self, or_true, true_or, or_false, false_or, if_true, if_false, Int.toNat_natCast, w_ite, Nat.add_zero, reduceCtorEq, ne_eq]
  rw [q_179_38]
  simp (disch := omega) only [q_179_0, q_179_1, q_179_2, q_179_5, q_179_6, q_179_9, q_179_11, q_179_14, q_179_15, q_179_17, q_179_19, q_179_22, q_179_23, q_179_26, q_179_27, q_179_28, q_179_29, q_179_30, q_179_33, q_179_34, q_179_35, q_179_36, q_179_37, q_179_39, q_179_40, q_179_43, q_179_44, q_179_45, q_179_46, q_179_47, q_179_48, q_179_49, q_179_50, q_179_51, q_179_52, q_179_53, q_179_54, q_179_55, q_179_56, q_179_57, q_179_58, q_179_59, q_179_60, q_179_63, q_179_66, q_179_69, q_179_72, q_179_75, q_179_76, q_179_77, q_179_80, q_179_81, q_179_82, q_179_86, q_179_89, q_179_90, q_179_93, q_179_94, q_179_97, q_179_98, q_179_99, q_179_101, q_179_102, q_179_105, q_179_106, q_179_107, q_179_108, q_179_109, q_179_110, q_179_113, q_179_114, q_179_115, q_179_116, q_179_117, q_179_120, q_179_123, q_179_126, q_179_127, q_179_128, q_179_131, q_179_132, q_179_133, q_179_136, q_179_e, va_rf_s, bz_0, bz_1, bz_ok, bb_ok, Nat.add_assoc, w_lt, w_add, w_sub, w_mul, w_div, em_def, w_eq, w_inT, ↓ilt_t, ↓ilt_f, ↓ieq_t, ↓ieq_f, ntT, w_b, w_ix, kx_v, kx_n, kl_n, kl_i, kl_r, kl_o, inA_i, inA_s, inA_b, inA_z, inA_l, inA_0, inA_4, inA_5, inA_6, inA_7, inA_8, inA_9, inA_10, al_0, al_1, al_2, al_4, al_5, al_98, bsP_2, bsP_3, wr_same, wr_wr, wr_ne, up_same, up_ne, Nat.reduceAdd, Int.reduceAdd, Int.reduceSub, Int.reduceMul, Int.reduceLT, Int.reduceLE, Int.reduceEq, Int.reduceNeg, Int.reduceToNat, Nat.reduceLT, Nat.reduceLeDiff, Nat.reduceEqDiff, ↓reduceIte, true_and, and_true, not_true_eq_false, not_false_eq_true, eq_self, or_true, true_or, or_false, false_or, if_true, if_false, Int.toNat_natCast, w_ite, Nat.add_zero, reduceCtorEq, ne_eq, hm]
  refine s1 (fun I3 hF3 hR3 => ?_)
  simp (disch := omega) only [q_179_0, q_179_1, q_179_2, q_179_5, q_179_6, q_179_9, q_179_11, q_179_14, q_179_15, q_179_17, q_179_19, q_179_22, q_179_23, q_179_26, q_179_27, q_179_28, q_179_29, q_179_30, q_179_33, q_179_34, q_179_35, q_179_36, q_179_37, q_179_39, q_179_40, q_179_43, q_179_44, q_179_45, q_179_46, q_179_47, q_179_48, q_179_49, q_179_50, q_179_51, q_179_52, q_179_53, q_179_54, q_179_55, q_179_56, q_179_57, q_179_58, q_179_59, q_179_60, q_179_63, q_179_66, q_179_69, q_179_72, q_179_75, q_179_76, q_179_77, q_179_80, q_179_81, q_179_82, q_179_86, q_179_89, q_179_90, q_179_93, q_179_94, q_179_97, q_179_98, q_179_99, q_179_101, q_179_102, q_179_105, q_179_106, q_179_107, q_179_108, q_179_109, q_179_110, q_179_113, q_179_114, q_179_115, q_179_116, q_179_117, q_179_120, q_179_123, q_179_126, q_179_127, q_179_128, q_179_131, q_179_132, q_179_133, q_179_136, q_179_e, va_rf_s, bz_0, bz_1, bz_ok, bb_ok, Nat.add_assoc, w_lt, w_add, w_sub, w_mul, w_div, em_def, w_eq, w_inT, ↓ilt_t, ↓ilt_f, ↓ieq_t, ↓ieq_f, ntT, w_b, w_ix, kx_v, kx_n, kl_n, kl_i, kl_r, kl_o, inA_i, inA_s, inA_b, inA_z, inA_l, inA_0, inA_4, inA_5, inA_6, inA_7, inA_8, inA_9, inA_10, al_0, al_1, al_2, al_4, al_5, al_98, bsP_2, bsP_3, wr_same, wr_wr, wr_ne, up_same, up_ne, Nat.reduceAdd, Int.reduceAdd, Int.reduceSub, Int.reduceMul, Int.reduceLT, Int.reduceLE, Int.reduceEq, Int.reduceNeg, Int.reduceToNat, Nat.reduceLT, Nat.reduceLeDiff, Nat.reduceEqDiff, ↓reduceIte, true_and, and_true, not_true_eq_false, not_false_eq_true, eq_self, or_true, true_or, or_false, false_or, if_true, if_false, Int.toNat_natCast, w_ite, Nat.add_zero, reduceCtorEq, ne_eq]
  rw [q_179_38]
  simp (disch := omega) only [q_179_0, q_179_1, q_179_2, q_179_5, q_179_6, q_179_9, q_179_11, q_179_14, q_179_15, q_179_17, q_179_19, q_179_22, q_179_23, q_179_26, q_179_27, q_179_28, q_179_29, q_179_30, q_179_33, q_179_34, q_179_35, q_179_36, q_179_37, q_179_39, q_179_40, q_179_43, q_179_44, q_179_45, q_179_46, q_179_47, q_179_48, q_179_49, q_179_50, q_179_51, q_179_52, q_179_53, q_179_54, q_179_55, q_179_56, q_179_57, q_179_58, q_179_59, q_179_60, q_179_63, q_179_66, q_179_69, q_179_72, q_179_75, q_179_76, q_179_77, q_179_80, q_179_81, q_179_82, q_179_86, q_179_89, q_179_90, q_179_93, q_179_94, q_179_97, q_179_98, q_179_99, q_179_101, q_179_102, q_179_105, q_179_106, q_179_107, q_179_108, q_179_109, q_179_110, q_179_113, q_179_114, q_179_115, q_179_116, q_179_117, q_179_120, q_179_123, q_179_126, q_179_127, q_179_128, q_179_131, q_179_132, q_179_133, q_179_136, q_179_e, va_rf_s, bz_0, bz_1, bz_ok, bb_ok, Nat.add_assoc, w_lt, w_add, w_sub, w_mul, w_div, em_def, w_eq, w_inT, ↓ilt_t, ↓ilt_f, ↓ieq_t, ↓ieq_f, ntT, w_b, w_ix, kx_v, kx_n, kl_n, kl_i, kl_r, kl_o, inA_i, inA_s, inA_b, inA_z, inA_l, inA_0, inA_4, inA_5, inA_6, inA_7, inA_8, inA_9, inA_10, al_0, al_1, al_2, al_4, al_5, al_98, bsP_2, bsP_3, wr_same, wr_wr, wr_ne, up_same, up_ne, Nat.reduceAdd, Int.reduceAdd, Int.reduceSub, Int.reduceMul, Int.reduceLT, Int.reduceLE, Int.reduceEq, Int.reduceNeg, Int.reduceToNat, Nat.reduceLT, Nat.reduceLeDiff, Nat.reduceEqDiff, ↓reduceIte, true_and, and_true, not_true_eq_false, not_false_eq_true, eq_self, or_true, true_or, or_false, false_or, if_true, if_false, Int.toNat_natCast, w_ite, Nat.add_zero, reduceCtorEq, ne_eq]
  refine hQ I3 _ ((hF01.trans ⟨fun x a b c d => hF2.1 x b (by omega) (by omega), fun j hj => hF2.2 j (by omega), fun j a b => by rw [hF2.1 m (by omega) (by omega) (by omega)]⟩).trans ⟨fun x a b c d => hF3.1 x b (by omega) (by omega), fun j hj => hF3.2 j (by omega), fun j a b => by rw [hF3.1 m (by omega) (by omega) (by omega)]⟩) (by rw [hF3.1 m (by omega) (by omega) (by omega), hF2.1 m (by omega) (by omega) (by omega), u0 _ (by omega)]) ?_ ?_
  · refine ⟨by rw [hF3.1 _ (by omega) (by omega) (by omega), hF2.1 _ (by omega) (by omega) (by omega), u1, up_same], fun l hl => ?_⟩
    have hl2 : l = 0 ∨ l = 1 := by omega
    rcases hl2 with rfl | rfl
    · exact hR2.st hF3 (by omega) (by omega) (by omega)
    · exact hR3
  · intro q b' hq hqn hB'
    have hB1 : BkM I1 m q b' := ⟨by rw [u1, up_ne hqn]; exact hB'.1, fun l hl => kp _ _ (by omega) (hB'.2 l hl)⟩
    exact (hB1.st hF2 hq (by omega) (by omega)).st hF3 hq (by omega) (by omega)
theorem MS.hk {I' : MI} {H : List Bk} (h : MS S I R G m s) (hF : HkF I I' m) (h22 : I' m 22 = w (-1)) (hH : HiM I' m H) : MS S I' R G m (s.1, s.2.1, H, s.2.2.2.1, s.2.2.2.2.1, s.2.2.2.2.2) := by
  obtain ⟨a1, a2, a3, a4, a5, a6, a7, a8, a9⟩ := h
  refine ⟨a1, a2, ?_, ?_, by rw [hF.2.2 5 (by decide) (by decide)]; exact a5, by rw [hF.2.2 13 (by decide) (by decide)]; exact a6, fun l hl => (a7 l hl).hk hF (by omega), hH, Or.inl h22⟩
  · rw [hF.1 _ (by omega) (by omega) (by omega) (by omega)]; exact a3
  · rw [hF.1 (m + 2) (by omega) (by omega) (by omega) (by omega), hF.2.2 2 (by decide) (by decide)]; exact a4
theorem hiD {b : Bk} {H : List Bk} {j : Nat} : (b :: H).getD j bk0 = if j = 0 then b else H.getD (j - 1) bk0 := by
  cases j with
  | zero => rfl
  | succ j => rfl
theorem MS.keeps (h : MS S I R G m s) (hQ : ∀ I' : MI, HkF I I' m → MS S I' R G m (hkeep s) → I' m 22 = w (-1) → Q (.inl none) (mk S I' L R G)) : XC (d + 2) 179 [.ref m] (mk S I L R G) Q := by
  have hm := h.1.1
  obtain ⟨h14, h12, hH⟩ := h.2.2.2.2.2.2.2.1
  have h13 := h.2.2.2.2.2.1
  have h7 := h.2.2.2.2.2.2.1
  have hBk : ∀ q, q < s.2.2.1.length → BkM I m q (s.2.2.1.getD (s.2.2.1.length - 1 - q) bk0) := fun q hq => by
    obtain ⟨a1, a2, a3⟩ := hH (s.2.2.1.length - 1 - q) (by omega)
    have e : s.2.2.1.length - 1 - (s.2.2.1.length - 1 - q) = q := by omega
    rw [e] at a1 a3
    exact ⟨a1, a3⟩
  have hbd : ∀ j, j < s.2.2.1.length → 1 ≤ (s.2.2.1.getD j bk0).1 ∧ (s.2.2.1.getD j bk0).1 ≤ 1000 := fun j hj => (hH j hj).2.1
  -- with 22 set
  have v0 : ∀ x, x ≠ m → wr I m (up (I m) 22 (w (-1))) x = I x := fun x hx => wr_ne hx
  have v1 : ∀ j, j ≠ 22 → wr I m (up (I m) 22 (w (-1))) m j = I m j := fun j hj => by rw [wr_same, up_ne hj]
  have v2 : wr I m (up (I m) 22 (w (-1))) m 22 = w (-1) := by rw [wr_same, up_same]
  have hF01 : HkF I (wr I m (up (I m) 22 (w (-1)))) m := ⟨fun x a _ _ _ => v0 x a, fun j hj => by rw [v0 _ (by omega)], fun j a b => v1 j b⟩
  have e141 := (v1 14 (by decide)).trans h14
  have kp : ∀ q b, q < 12 → BkM I m q b → BkM (wr I m (up (I m) 22 (w (-1)))) m q b := fun q b hq hB => ⟨by rw [v0 _ (by omega)]; exact hB.1, fun l hl => by
    have h30 := (hB.2 l hl).2.1
    exact ⟨by rw [v0 _ (by omega)]; exact (hB.2 l hl).1, h30, fun k hk => ((hB.2 l hl).2.2 k hk).congr (v0 _ (by omega)) (fun i hi => v0 _ (by omega))⟩⟩
  have fin : ∀ (n : Nat) (I1 : MI) (B : Nat → Bk), n < 12 → HkF I I1 m → I1 m 14 = w n → I1 m 22 = w (-1) → (∀ q, q < n → BkM I1 m q (B q) ∧ 1 ≤ (B q).1 ∧ (B q).1 ≤ 1000) → (((s.2.1 :: s.2.2.1).take 12).length = n + 1) → (∀ q, q < n → ((s.2.1 :: s.2.2.1).take 12).getD (n - q) bk0 = B q) → ∀ o1 o2 : Option Value, XX (d + 2) 179 85 [some (.ref m), o1, o2] [] (mk S I1 L R G) Q := by
    intro n I1 B hn hF1 f14 f22 fB flen fget o1 o2
    have f13 : I1 m 13 = w s.2.1.1 := by rw [hF1.2.2 13 (by decide) (by decide)]; exact h13.1
    refine sp_179b h.1 hn f14 f13 (fun l hl => (h7 l hl).hk hF1 (by omega)) (fun I2 hF2 g14 g22 gB gO => ?_)
    refine hQ I2 (hF1.trans hF2) (h.hk (hF1.trans hF2) (g22.trans f22) ⟨by rw [flen]; exact g14, by omega, fun j hj => ?_⟩) (g22.trans f22)
    rw [flen] at hj ⊢
    by_cases c : j = 0
    · subst c
      have : ((s.2.1 :: s.2.2.1).take 12).getD 0 bk0 = s.2.1 := rfl
      rw [this]
      exact ⟨gB.1, h13.2, gB.2⟩
    · have e := fget (n - j) (by omega)
      rw [show n - (n - j) = j by omega] at e
      rw [e]
      have := gO (n - j) _ (by omega) (by omega) (fB (n - j) (by omega)).1
      rw [show n + 1 - 1 - j = n - j by omega]
      exact ⟨this.1, (fB (n - j) (by omega)).2, this.2⟩
  by_cases c12 : s.2.2.1.length = 12
  · have shift : ∀ (j i : Nat) (I1 : MI) (o2 : Option Value), 1 ≤ i → i + j = 12 → HkF I I1 m → I1 m 14 = w 12 → I1 m 22 = w (-1) → (∀ q, q < 12 → BkM I1 m q (s.2.2.1.getD (if q + 1 < i then 11 - (q + 1) else 11 - q) bk0)) → XX (d + 2) 179 16 [some (.ref m), some (.int (w i)), o2] [] (mk S I1 L R G) Q := by
      intro j
      induction j with
      | zero =>
        intro i I1 o2 h1 hi hF1 f14 f22 fB
        have : i = 12 := by omega
        subst this
        have u0 : ∀ x, x ≠ m → wr I1 m (up (I1 m) 14 (w 11)) x = I1 x := fun x hx => wr_ne hx
        have u1 : ∀ j, j ≠ 14 → wr I1 m (up (I1 m) 14 (w 11)) m j = I1 m j := fun j hj => by rw [wr_same, up_ne hj]
        have := fin 11 (wr I1 m (up (I1 m) 14 (w 11))) (fun q => s.2.2.1.getD (11 - (q + 1)) bk0) (by decide) (hF1.trans ⟨fun x a _ _ _ => u0 x a, fun j hj => by rw [u0 _ (by omega)], fun j a b => u1 j a⟩) (by rw [wr_same, up_same]; rfl) (by rw [u1 _ (by decide)]; exact f22) (fun q hq => by
          have := fB q (by omega)
          rw [if_pos (by omega)] at this
          refine ⟨⟨by rw [u0 _ (by omega)]; exact this.1, fun l hl => ?_⟩, hbd _ (by omega)⟩
          have h30 := (this.2 l hl).2.1
          exact ⟨by rw [u0 _ (by omega)]; exact (this.2 l hl).1, h30, fun k hk => ((this.2 l hl).2.2 k hk).congr (u0 _ (by omega)) (fun i hi => u0 _ (by omega))⟩) (by rw [List.length_take, List.length_cons]; omega) (fun q hq => by
          rw [List.getD_eq_getElem?_getD, List.getElem?_take, if_pos (by omega), ← List.getD_eq_getElem?_getD, hiD, if_neg (by omega), show 11 - q - 1 = 11 - (q + 1) by omega]) (some (.int (w (12 : Nat)))) o2
        rw [q_179_16]
        simp (disch := omega) only [q_179_0, q_179_1, q_179_2, q_179_5, q_179_6, q_179_9, q_179_11, q_179_14, q_179_15, q_179_17, q_179_19, q_179_22, q_179_23, q_179_26, q_179_27, q_179_28, q_179_29, q_179_30, q_179_33, q_179_34, q_179_35, q_179_36, q_179_37, q_179_39, q_179_40, q_179_43, q_179_44, q_179_45, q_179_46, q_179_47, q_179_48, q_179_49, q_179_50, q_179_51, q_179_52, q_179_53, q_179_54, q_179_55, q_179_56, q_179_57, q_179_58, q_179_59, q_179_60, q_179_63, q_179_66, q_179_69, q_179_72, q_179_75, q_179_76, q_179_77, q_179_80, q_179_81, q_179_82, q_179_86, q_179_89, q_179_90, q_179_93, q_179_94, q_179_97, q_179_98, q_179_99, q_179_101, q_179_102, q_179_105, q_179_106, q_179_107, q_179_108, q_179_109, q_179_110, q_179_113, q_179_114, q_179_115, q_179_116, q_179_117, q_179_120, q_179_123, q_179_126, q_179_127, q_179_128, q_179_131, q_179_132, q_179_133, q_179_136, q_179_e, va_rf_s, bz_0, bz_1, bz_ok, bb_ok, Nat.add_assoc, w_lt, w_add, w_sub, w_mul, w_div, em_def, w_eq, w_inT, ↓ilt_t, ↓ilt_f, ↓ieq_t, ↓ieq_f, ntT, w_b, w_ix, kx_v, kx_n, kl_n, kl_i, kl_r, kl_o, inA_i, inA_s, inA_b, inA_z, inA_l, inA_0, inA_4, inA_5, inA_6, inA_7, inA_8, inA_9, inA_10, al_0, al_1, al_2, al_4, al_5, al_98, bsP_2, bsP_3, wr_same, wr_wr, wr_ne, up_same, up_ne, Nat.reduceAdd, Int.reduceAdd, Int.reduceSub, Int.reduceMul, Int.reduceLT, Int.reduceLE, Int.reduceEq, Int.reduceNeg, Int.reduceToNat, Nat.reduceLT, Nat.reduceLeDiff, Nat.reduceEqDiff, ↓reduceIte, true_and, and_true, not_true_eq_false, not_false_eq_true, eq_self, or_true, true_or, or_false, false_or, if_true, if_false, Int.toNat_natCast, w_ite, Nat.add_zero, reduceCtorEq, ne_eq, hm, f14]
        exact this
      | succ j ih =>
        intro i I1 o2 h1 hi hF1 f14 f22 fB
        have b1 := fB i (by omega)
        rw [if_neg (by omega)] at b1
        refine sp_179s h.1 h1 (by omega) b1 (fun I2 o2 hF2 em gB gO => ?_)
        have := ih (i + 1) I2 o2 (by omega) (by omega) (hF1.trans hF2) (by rw [em]; exact f14) (by rw [em]; exact f22) (fun q hq => by
          by_cases c : q = i - 1
          · subst c
            rw [if_pos (by omega), show 11 - (i - 1 + 1) = 11 - i by omega]
            exact gB
          · have := gO q _ hq c (fB q hq)
            by_cases c2 : q + 1 < i
            · rw [if_pos c2] at this; rw [if_pos (by omega)]; exact this
            · rw [if_neg c2] at this; rw [if_neg (by omega)]; exact this)
        simp only [Int.natCast_add, Int.natCast_one] at this
        exact this
    have e12 : (s.2.2.1.length : Int) = 12 := by omega
    have := shift 11 1 (wr I m (up (I m) 22 (w (-1)))) none (by decide) (by decide) hF01 (by rw [e141, e12]) v2 (fun q hq => by
      rw [if_neg (by omega)]
      have := hBk q (by omega)
      rw [c12] at this
      exact kp q _ hq this)
    rw [e12] at h14
    simp (disch := omega) only [q_179_0, q_179_1, q_179_2, q_179_5, q_179_6, q_179_9, q_179_11, q_179_14, q_179_15, q_179_17, q_179_19, q_179_22, q_179_23, q_179_26, q_179_27, q_179_28, q_179_29, q_179_30, q_179_33, q_179_34, q_179_35, q_179_36, q_179_37, q_179_39, q_179_40, q_179_43, q_179_44, q_179_45, q_179_46, q_179_47, q_179_48, q_179_49, q_179_50, q_179_51, q_179_52, q_179_53, q_179_54, q_179_55, q_179_56, q_179_57, q_179_58, q_179_59, q_179_60, q_179_63, q_179_66, q_179_69, q_179_72, q_179_75, q_179_76, q_179_77, q_179_80, q_179_81, q_179_82, q_179_86, q_179_89, q_179_90, q_179_93, q_179_94, q_179_97, q_179_98, q_179_99, q_179_101, q_179_102, q_179_105, q_179_106, q_179_107, q_179_108, q_179_109, q_179_110, q_179_113, q_179_114, q_179_115, q_179_116, q_179_117, q_179_120, q_179_123, q_179_126, q_179_127, q_179_128, q_179_131, q_179_132, q_179_133, q_179_136, q_179_e, va_rf_s, bz_0, bz_1, bz_ok, bb_ok, Nat.add_assoc, w_lt, w_add, w_sub, w_mul, w_div, em_def, w_eq, w_inT, ↓ilt_t, ↓ilt_f, ↓ieq_t, ↓ieq_f, ntT, w_b, w_ix, kx_v, kx_n, kl_n, kl_i, kl_r, kl_o, inA_i, inA_s, inA_b, inA_z, inA_l, inA_0, inA_4, inA_5, inA_6, inA_7, inA_8, inA_9, inA_10, al_0, al_1, al_2, al_4, al_5, al_98, bsP_2, bsP_3, wr_same, wr_wr, wr_ne, up_same, up_ne, Nat.reduceAdd, Int.reduceAdd, Int.reduceSub, Int.reduceMul, Int.reduceLT, Int.reduceLE, Int.reduceEq, Int.reduceNeg, Int.reduceToNat, Nat.reduceLT, Nat.reduceLeDiff, Nat.reduceEqDiff, ↓reduceIte, true_and, and_true, not_true_eq_false, not_false_eq_true, eq_self, or_true, true_or, or_false, false_or, if_true, if_false, Int.toNat_natCast, w_ite, Nat.add_zero, reduceCtorEq, ne_eq, hm, h14]
    exact this
  · have := fin s.2.2.1.length (wr I m (up (I m) 22 (w (-1)))) (fun q => s.2.2.1.getD (s.2.2.1.length - 1 - q) bk0) (by omega) hF01 e141 v2 (fun q hq => ⟨kp q _ (by omega) (hBk q hq), hbd _ (by omega)⟩) (by rw [List.length_take, List.length_cons]; omega) (fun q hq => by
      rw [List.getD_eq_getElem?_getD, List.getElem?_take, if_pos (by omega), ← List.getD_eq_getElem?_getD, hiD, if_neg (by omega), show s.2.2.1.length - q - 1 = s.2.2.1.length - 1 - q by omega]) none none
    simp (disch := omega) only [q_179_0, q_179_1, q_179_2, q_179_5, q_179_6, q_179_9, q_179_11, q_179_14, q_179_15, q_179_17, q_179_19, q_179_22, q_179_23, q_179_26, q_179_27, q_179_28, q_179_29, q_179_30, q_179_33, q_179_34, q_179_35, q_179_36, q_179_37, q_179_39, q_179_40, q_179_43, q_179_44, q_179_45, q_179_46, q_179_47, q_179_48, q_179_49, q_179_50, q_179_51, q_179_52, q_179_53, q_179_54, q_179_55, q_179_56, q_179_57, q_179_58, q_179_59, q_179_60, q_179_63, q_179_66, q_179_69, q_179_72, q_179_75, q_179_76, q_179_77, q_179_80, q_179_81, q_179_82, q_179_86, q_179_89, q_179_90, q_179_93, q_179_94, q_179_97, q_179_98, q_179_99, q_179_101, q_179_102, q_179_105, q_179_106, q_179_107, q_179_108, q_179_109, q_179_110, q_179_113, q_179_114, q_179_115, q_179_116, q_179_117, q_179_120, q_179_123, q_179_126, q_179_127, q_179_128, q_179_131, q_179_132, q_179_133, q_179_136, q_179_e, va_rf_s, bz_0, bz_1, bz_ok, bb_ok, Nat.add_assoc, w_lt, w_add, w_sub, w_mul, w_div, em_def, w_eq, w_inT, ↓ilt_t, ↓ilt_f, ↓ieq_t, ↓ieq_f, ntT, w_b, w_ix, kx_v, kx_n, kl_n, kl_i, kl_r, kl_o, inA_i, inA_s, inA_b, inA_z, inA_l, inA_0, inA_4, inA_5, inA_6, inA_7, inA_8, inA_9, inA_10, al_0, al_1, al_2, al_4, al_5, al_98, bsP_2, bsP_3, wr_same, wr_wr, wr_ne, up_same, up_ne, Nat.reduceAdd, Int.reduceAdd, Int.reduceSub, Int.reduceMul, Int.reduceLT, Int.reduceLE, Int.reduceEq, Int.reduceNeg, Int.reduceToNat, Nat.reduceLT, Nat.reduceLeDiff, Nat.reduceEqDiff, ↓reduceIte, true_and, and_true, not_true_eq_false, not_false_eq_true, eq_self, or_true, true_or, or_false, false_or, if_true, if_false, Int.toNat_natCast, w_ite, Nat.add_zero, reduceCtorEq, ne_eq, hm, h14]
    exact this
end

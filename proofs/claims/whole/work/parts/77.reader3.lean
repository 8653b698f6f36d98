/-! the reader: an item -/
theorem w_shl {p b : Int} (h1 : 0 ≤ p) (h2 : p < 36028797018963968) (b1 : 0 ≤ b) (b2 : b < 256) : (wl p <<< ((w 8).toInt64 &&& 63)) ||| (w b).toInt64 = wl (256 * p + b) := by
  rw [w_l (a := b) (by omega) (by omega)]
  apply Int64.toBitVec_inj.mp
  show (BitVec.ofInt 64 p <<< (((w 8).toInt64 &&& 63).toBitVec.smod 64)) ||| BitVec.ofInt 64 b = BitVec.ofInt 64 (256 * p + b)
  rw [show ((w 8).toInt64 &&& 63).toBitVec.smod 64 = 8#64 by decide]
  apply BitVec.eq_of_toNat_eq
  rw [BitVec.toNat_or]
  show (BitVec.ofInt 64 p <<< (8#64).toNat).toNat ||| _ = _
  rw [BitVec.toNat_shiftLeft, BitVec.toNat_ofInt, BitVec.toNat_ofInt, BitVec.toNat_ofInt]
  show (p % 18446744073709551616).toNat <<< 8 % 18446744073709551616 ||| (b % 18446744073709551616).toNat = ((256 * p + b) % 18446744073709551616).toNat
  have e1 : (p % 18446744073709551616).toNat = p.toNat := by omega
  have e2 : (b % 18446744073709551616).toNat = b.toNat := by omega
  rw [e1, e2]
  have e3 : p.toNat <<< 8 % 18446744073709551616 = p.toNat <<< 8 := by rw [Nat.shiftLeft_eq]; show p.toNat * 256 % _ = _; omega
  rw [e3, ← Nat.shiftLeft_add_eq_or_of_lt (show b.toNat < 2 ^ 8 by show b.toNat < 256; omega), Nat.shiftLeft_eq]
  show p.toNat * 256 + b.toNat = _
  omega
theorem pack_drop {s : List Int} {i : Nat} (h : i < s.length) : pack (s.drop i) = s.getD i 0 + 256 * pack (s.drop (i + 1)) := by
  rw [drop_cons h]; rfl
theorem pack_sm {s : List Int} {i : Nat} (h : ∀ b ∈ s, 0 ≤ b ∧ b < 128) (hl : s.length ≤ 8) : 0 ≤ pack (s.drop (i + 1)) ∧ pack (s.drop (i + 1)) < 36028797018963968 := by
  obtain ⟨h1, h2⟩ := pack_bd (s.drop (i + 1)) (fun b hb => h b (List.mem_of_mem_drop hb))
  refine ⟨h1, ?_⟩
  have : (256 : Int) ^ (s.drop (i + 1)).length ≤ 256 ^ 7 := by
    have hn : (256 : Nat) ^ (s.drop (i + 1)).length ≤ 256 ^ 7 := Nat.pow_le_pow_right (by decide) (by rw [List.length_drop]; omega)
    have := Int.ofNat_le.mpr hn
    simpa using this
  have e : (256 : Int) ^ 7 = 72057594037927936 := by decide
  omega
def ItAt (I : MI) (L : ML) (tr : Nat) (its : List It) : Prop := I tr 10 = w its.length ∧ ∀ i, i < its.length → I (tr + 4) i = w (its.getD i d0).1 ∧ I (tr + 5) i = w (its.getD i d0).2.1 ∧ L (tr + 6) i = wl (pack (its.getD i d0).2.2)
theorem itD_snoc {its : List It} {it : It} {i : Nat} : (its ++ [it]).getD i d0 = if i = its.length then it else its.getD i d0 := by
  rw [List.getD_eq_getElem?_getD, List.getD_eq_getElem?_getD, List.getElem?_append]
  split
  · rename_i h
    rw [if_neg (by omega)]
  · rename_i h
    split
    · rename_i h2
      rw [h2, Nat.sub_self]; rfl
    · rename_i h2
      rw [List.getElem?_eq_none (by show 1 ≤ _; omega), List.getElem?_eq_none (by omega)]
section
variable {d : Nat} {Q : XO → Hp → Prop} {S : SH} {I : MI} {L : ML} {R : MR} {G : MG} {A : Hp}
variable {tr b : Nat} {t : List Int}
theorem sp_72 {p : Nat} (hS : RdS S R tr b) (hI : RdI I tr b t) (h7 : I tr 7 = w p) (hp : p ≤ t.length) : XC (d + 2) 72 [.ref tr] (mk S I L R G) Q ↔ Q (.inl (some (.int (w (kdH (bt t p)))))) (mk S I L R G) := by
  have s77 := fun {d : Nat} {Q : XO → Hp → Prop} => sp_77 (d := d) (Q := Q) (L := L) (G := G) hS hI h7 hp
  have hb := bt_bd (p := p) hI.2.2.2
  have s148 := fun {d : Nat} {Q : XO → Hp → Prop} {A : Hp} => sp_148 (d := d) (Q := Q) (A := A) (x := bt t p) (by omega) (by omega)
  simp (disch := omega) only [q_72_0, q_72_1, q_72_4, q_72_5, q_72_6, q_72_64, q_72_65, q_72_66, q_72_67, q_72_68, q_72_69, q_72_70, q_72_71, q_72_72, q_72_73, q_72_74, q_72_76, q_72_77, q_72_78, q_72_81, q_72_84, q_72_85, q_72_88, q_72_89, q_72_e, va_rf_s, bz_0, bz_1, bz_ok, bb_ok, Nat.add_assoc, w_lt, w_add, w_sub, w_mul, w_div, em_def, w_eq, w_inT, ↓ilt_t, ↓ilt_f, ↓ieq_t, ↓ieq_f, ntT, w_b, w_ix, kx_v, kx_n, kl_n, kl_i, kl_r, kl_o, inA_i, inA_s, inA_b, inA_z, inA_l, inA_0, inA_4, inA_5, inA_6, inA_7, inA_8, inA_9, inA_10, al_0, al_1, al_2, al_4, al_5, al_98, bsP_2, bsP_3, wr_same, wr_wr, wr_ne, up_same, up_ne, Nat.reduceAdd, Int.reduceAdd, Int.reduceSub, Int.reduceMul, Int.reduceLT, Int.reduceLE, Int.reduceEq, Int.reduceNeg, Int.reduceToNat, Nat.reduceLT, Nat.reduceLeDiff, Nat.reduceEqDiff, ↓reduceIte, true_and, and_true, not_true_eq_false, not_false_eq_true, eq_self, or_true, true_or, or_false, false_or, if_true, if_false, Int.toNat_natCast, w_ite, Nat.add_zero, reduceCtorEq, ne_eq, hS.1, s77, w_toInt]
  generalize bt t p = c at *
  unfold kdH
  have hc : c = 47 ∨ c = 37 ∨ c = 35 ∨ c = 45 ∨ c = 43 ∨ c = 126 ∨ (c ≠ 47 ∧ c ≠ 37 ∧ c ≠ 35 ∧ c ≠ 45 ∧ c ≠ 43 ∧ c ≠ 126) := by omega
  rcases hc with e | e | e | e | e | e | ⟨e1, e2, e3, e4, e5, e6⟩
  · subst e
    rw [show swL [(35, 68), (37, 66), (43, 72), (45, 70), (47, 64), (126, 74)] 77 47 = 64 from rfl]
    simp (disch := omega) only [q_72_0, q_72_1, q_72_4, q_72_5, q_72_6, q_72_64, q_72_65, q_72_66, q_72_67, q_72_68, q_72_69, q_72_70, q_72_71, q_72_72, q_72_73, q_72_74, q_72_76, q_72_77, q_72_78, q_72_81, q_72_84, q_72_85, q_72_88, q_72_89, q_72_e, va_rf_s, bz_0, bz_1, bz_ok, bb_ok, Nat.add_assoc, w_lt, w_add, w_sub, w_mul, w_div, em_def, w_eq, w_inT, ↓ilt_t, ↓ilt_f, ↓ieq_t, ↓ieq_f, ntT, w_b, w_ix, kx_v, kx_n, kl_n, kl_i, kl_r, kl_o, inA_i, inA_s, inA_b, inA_z, inA_l, inA_0, inA_4, inA_5, inA_6, inA_7, inA_8, inA_9, inA_10, al_0, al_1, al_2, al_4, al_5, al_98, bsP_2, bsP_3, wr_same, wr_wr, wr_ne, up_same, up_ne, Nat.reduceAdd, Int.reduceAdd, Int.reduceSub, Int.reduceMul, Int.reduceLT, Int.reduceLE, Int.reduceEq, Int.reduceNeg, Int.reduceToNat, Nat.reduceLT, Nat.reduceLeDiff, Nat.reduceEqDiff, ↓reduceIte, true_and, and_true, not_true_eq_false, not_false_eq_true, eq_self, or_true, true_or, or_false, false_or, if_true, if_false, Int.toNat_natCast, w_ite, Nat.add_zero, reduceCtorEq, ne_eq]
  · subst e
    rw [show swL [(35, 68), (37, 66), (43, 72), (45, 70), (47, 64), (126, 74)] 77 37 = 66 from rfl]
    simp (disch := omega) only [q_72_0, q_72_1, q_72_4, q_72_5, q_72_6, q_72_64, q_72_65, q_72_66, q_72_67, q_72_68, q_72_69, q_72_70, q_72_71, q_72_72, q_72_73, q_72_74, q_72_76, q_72_77, q_72_78, q_72_81, q_72_84, q_72_85, q_72_88, q_72_89, q_72_e, va_rf_s, bz_0, bz_1, bz_ok, bb_ok, Nat.add_assoc, w_lt, w_add, w_sub, w_mul, w_div, em_def, w_eq, w_inT, ↓ilt_t, ↓ilt_f, ↓ieq_t, ↓ieq_f, ntT, w_b, w_ix, kx_v, kx_n, kl_n, kl_i, kl_r, kl_o, inA_i, inA_s, inA_b, inA_z, inA_l, inA_0, inA_4, inA_5, inA_6, inA_7, inA_8, inA_9, inA_10, al_0, al_1, al_2, al_4, al_5, al_98, bsP_2, bsP_3, wr_same, wr_wr, wr_ne, up_same, up_ne, Nat.reduceAdd, Int.reduceAdd, Int.reduceSub, Int.reduceMul, Int.reduceLT, Int.reduceLE, Int.reduceEq, Int.reduceNeg, Int.reduceToNat, Nat.reduceLT, Nat.reduceLeDiff, Nat.reduceEqDiff, ↓reduceIte, true_and, and_true, not_true_eq_false, not_false_eq_true, eq_self, or_true, true_or, or_false, false_or, if_true, if_false, Int.toNat_natCast, w_ite, Nat.add_zero, reduceCtorEq, ne_eq]
  · subst e
    rw [show swL [(35, 68), (37, 66), (43, 72), (45, 70), (47, 64), (126, 74)] 77 35 = 68 from rfl]
    simp (disch := omega) only [q_72_0, q_72_1, q_72_4, q_72_5, q_72_6, q_72_64, q_72_65, q_72_66, q_72_67, q_72_68, q_72_69, q_72_70, q_72_71, q_72_72, q_72_73, q_72_74, q_72_76, q_72_77, q_72_78, q_72_81, q_72_84, q_72_85, q_72_88, q_72_89, q_72_e, va_rf_s, bz_0, bz_1, bz_ok, bb_ok, Nat.add_assoc, w_lt, w_add, w_sub, w_mul, w_div, em_def, w_eq, w_inT, ↓ilt_t, ↓ilt_f, ↓ieq_t, ↓ieq_f, ntT, w_b, w_ix, kx_v, kx_n, kl_n, kl_i, kl_r, kl_o, inA_i, inA_s, inA_b, inA_z, inA_l, inA_0, inA_4, inA_5, inA_6, inA_7, inA_8, inA_9, inA_10, al_0, al_1, al_2, al_4, al_5, al_98, bsP_2, bsP_3, wr_same, wr_wr, wr_ne, up_same, up_ne, Nat.reduceAdd, Int.reduceAdd, Int.reduceSub, Int.reduceMul, Int.reduceLT, Int.reduceLE, Int.reduceEq, Int.reduceNeg, Int.reduceToNat, Nat.reduceLT, Nat.reduceLeDiff, Nat.reduceEqDiff, ↓reduceIte, true_and, and_true, not_true_eq_false, not_false_eq_true, eq_self, or_true, true_or, or_false, false_or, if_true, if_false, Int.toNat_natCast, w_ite, Nat.add_zero, reduceCtorEq, ne_eq]
  · subst e
    rw [show swL [(35, 68), (37, 66), (43, 72), (45, 70), (47, 64), (126, 74)] 77 45 = 70 from rfl]
    simp (disch := omega) only [q_72_0, q_72_1, q_72_4, q_72_5, q_72_6, q_72_64, q_72_65, q_72_66, q_72_67, q_72_68, q_72_69, q_72_70, q_72_71, q_72_72, q_72_73, q_72_74, q_72_76, q_72_77, q_72_78, q_72_81, q_72_84, q_72_85, q_72_88, q_72_89, q_72_e, va_rf_s, bz_0, bz_1, bz_ok, bb_ok, Nat.add_assoc, w_lt, w_add, w_sub, w_mul, w_div, em_def, w_eq, w_inT, ↓ilt_t, ↓ilt_f, ↓ieq_t, ↓ieq_f, ntT, w_b, w_ix, kx_v, kx_n, kl_n, kl_i, kl_r, kl_o, inA_i, inA_s, inA_b, inA_z, inA_l, inA_0, inA_4, inA_5, inA_6, inA_7, inA_8, inA_9, inA_10, al_0, al_1, al_2, al_4, al_5, al_98, bsP_2, bsP_3, wr_same, wr_wr, wr_ne, up_same, up_ne, Nat.reduceAdd, Int.reduceAdd, Int.reduceSub, Int.reduceMul, Int.reduceLT, Int.reduceLE, Int.reduceEq, Int.reduceNeg, Int.reduceToNat, Nat.reduceLT, Nat.reduceLeDiff, Nat.reduceEqDiff, ↓reduceIte, true_and, and_true, not_true_eq_false, not_false_eq_true, eq_self, or_true, true_or, or_false, false_or, if_true, if_false, Int.toNat_natCast, w_ite, Nat.add_zero, reduceCtorEq, ne_eq]
  · subst e
    rw [show swL [(35, 68), (37, 66), (43, 72), (45, 70), (47, 64), (126, 74)] 77 43 = 72 from rfl]
    simp (disch := omega) only [q_72_0, q_72_1, q_72_4, q_72_5, q_72_6, q_72_64, q_72_65, q_72_66, q_72_67, q_72_68, q_72_69, q_72_70, q_72_71, q_72_72, q_72_73, q_72_74, q_72_76, q_72_77, q_72_78, q_72_81, q_72_84, q_72_85, q_72_88, q_72_89, q_72_e, va_rf_s, bz_0, bz_1, bz_ok, bb_ok, Nat.add_assoc, w_lt, w_add, w_sub, w_mul, w_div, em_def, w_eq, w_inT, ↓ilt_t, ↓ilt_f, ↓ieq_t, ↓ieq_f, ntT, w_b, w_ix, kx_v, kx_n, kl_n, kl_i, kl_r, kl_o, inA_i, inA_s, inA_b, inA_z, inA_l, inA_0, inA_4, inA_5, inA_6, inA_7, inA_8, inA_9, inA_10, al_0, al_1, al_2, al_4, al_5, al_98, bsP_2, bsP_3, wr_same, wr_wr, wr_ne, up_same, up_ne, Nat.reduceAdd, Int.reduceAdd, Int.reduceSub, Int.reduceMul, Int.reduceLT, Int.reduceLE, Int.reduceEq, Int.reduceNeg, Int.reduceToNat, Nat.reduceLT, Nat.reduceLeDiff, Nat.reduceEqDiff, ↓reduceIte, true_and, and_true, not_true_eq_false, not_false_eq_true, eq_self, or_true, true_or, or_false, false_or, if_true, if_false, Int.toNat_natCast, w_ite, Nat.add_zero, reduceCtorEq, ne_eq]
  · subst e
    rw [show swL [(35, 68), (37, 66), (43, 72), (45, 70), (47, 64), (126, 74)] 77 126 = 74 from rfl]
    simp (disch := omega) only [q_72_0, q_72_1, q_72_4, q_72_5, q_72_6, q_72_64, q_72_65, q_72_66, q_72_67, q_72_68, q_72_69, q_72_70, q_72_71, q_72_72, q_72_73, q_72_74, q_72_76, q_72_77, q_72_78, q_72_81, q_72_84, q_72_85, q_72_88, q_72_89, q_72_e, va_rf_s, bz_0, bz_1, bz_ok, bb_ok, Nat.add_assoc, w_lt, w_add, w_sub, w_mul, w_div, em_def, w_eq, w_inT, ↓ilt_t, ↓ilt_f, ↓ieq_t, ↓ieq_f, ntT, w_b, w_ix, kx_v, kx_n, kl_n, kl_i, kl_r, kl_o, inA_i, inA_s, inA_b, inA_z, inA_l, inA_0, inA_4, inA_5, inA_6, inA_7, inA_8, inA_9, inA_10, al_0, al_1, al_2, al_4, al_5, al_98, bsP_2, bsP_3, wr_same, wr_wr, wr_ne, up_same, up_ne, Nat.reduceAdd, Int.reduceAdd, Int.reduceSub, Int.reduceMul, Int.reduceLT, Int.reduceLE, Int.reduceEq, Int.reduceNeg, Int.reduceToNat, Nat.reduceLT, Nat.reduceLeDiff, Nat.reduceEqDiff, ↓reduceIte, true_and, and_true, not_true_eq_false, not_false_eq_true, eq_self, or_true, true_or, or_false, false_or, if_true, if_false, Int.toNat_natCast, w_ite, Nat.add_zero, reduceCtorEq, ne_eq]
  · have esw : swL [(35, 68), (37, 66), (43, 72), (45, 70), (47, 64), (126, 74)] 77 c = 77 := by
      simp [swL, e1, e2, e3, e4, e5, e6]
    rw [esw, if_neg e1, if_neg e2, if_neg e3, if_neg e4, if_neg e5, if_neg e6]
    cases hl : isl c with
    | true =>
      rw [hl] at s148
      simp (disch := omega) only [q_72_0, q_72_1, q_72_4, q_72_5, q_72_6, q_72_64, q_72_65, q_72_66, q_72_67, q_72_68, q_72_69, q_72_70, q_72_71, q_72_72, q_72_73, q_72_74, q_72_76, q_72_77, q_72_78, q_72_81, q_72_84, q_72_85, q_72_88, q_72_89, q_72_e, va_rf_s, bz_0, bz_1, bz_ok, bb_ok, Nat.add_assoc, w_lt, w_add, w_sub, w_mul, w_div, em_def, w_eq, w_inT, ↓ilt_t, ↓ilt_f, ↓ieq_t, ↓ieq_f, ntT, w_b, w_ix, kx_v, kx_n, kl_n, kl_i, kl_r, kl_o, inA_i, inA_s, inA_b, inA_z, inA_l, inA_0, inA_4, inA_5, inA_6, inA_7, inA_8, inA_9, inA_10, al_0, al_1, al_2, al_4, al_5, al_98, bsP_2, bsP_3, wr_same, wr_wr, wr_ne, up_same, up_ne, Nat.reduceAdd, Int.reduceAdd, Int.reduceSub, Int.reduceMul, Int.reduceLT, Int.reduceLE, Int.reduceEq, Int.reduceNeg, Int.reduceToNat, Nat.reduceLT, Nat.reduceLeDiff, Nat.reduceEqDiff, ↓reduceIte, true_and, and_true, not_true_eq_false, not_false_eq_true, eq_self, or_true, true_or, or_false, false_or, if_true, if_false, Int.toNat_natCast, w_ite, Nat.add_zero, reduceCtorEq, ne_eq, s148, bz_t]
    | false =>
      rw [hl] at s148
      simp (disch := omega) only [q_72_0, q_72_1, q_72_4, q_72_5, q_72_6, q_72_64, q_72_65, q_72_66, q_72_67, q_72_68, q_72_69, q_72_70, q_72_71, q_72_72, q_72_73, q_72_74, q_72_76, q_72_77, q_72_78, q_72_81, q_72_84, q_72_85, q_72_88, q_72_89, q_72_e, va_rf_s, bz_0, bz_1, bz_ok, bb_ok, Nat.add_assoc, w_lt, w_add, w_sub, w_mul, w_div, em_def, w_eq, w_inT, ↓ilt_t, ↓ilt_f, ↓ieq_t, ↓ieq_f, ntT, w_b, w_ix, kx_v, kx_n, kl_n, kl_i, kl_r, kl_o, inA_i, inA_s, inA_b, inA_z, inA_l, inA_0, inA_4, inA_5, inA_6, inA_7, inA_8, inA_9, inA_10, al_0, al_1, al_2, al_4, al_5, al_98, bsP_2, bsP_3, wr_same, wr_wr, wr_ne, up_same, up_ne, Nat.reduceAdd, Int.reduceAdd, Int.reduceSub, Int.reduceMul, Int.reduceLT, Int.reduceLE, Int.reduceEq, Int.reduceNeg, Int.reduceToNat, Nat.reduceLT, Nat.reduceLeDiff, Nat.reduceEqDiff, ↓reduceIte, true_and, and_true, not_true_eq_false, not_false_eq_true, eq_self, or_true, true_or, or_false, false_or, if_true, if_false, Int.toNat_natCast, w_ite, Nat.add_zero, reduceCtorEq, ne_eq, s148, bz_f, Bool.false_eq_true]
theorem sp_71 {s : Nat} {kd : Int} {its : List It} (hS : RdS S R tr b) (hI : RdI I tr b t) (h7 : I tr 7 = w s) (hs : s < t.length) (hk : kd = kdH (t.getD s 0)) (hk1 : kd ≠ -1) (hit : ItAt I L tr its) (h6 : its.length < 6)
    (hQ1 : ∀ it q, pItem t kd s = .inl (it, q) → ∀ (I' : MI) (L' : ML), (∀ a, a ≠ tr → a ≠ tr + 4 → a ≠ tr + 5 → I' a = I a) → (∀ a, a ≠ tr + 6 → L' a = L a) → (∀ j, j ≠ 7 → j ≠ 8 → j ≠ 10 → I' tr j = I tr j) → I' tr 7 = w q → ItAt I' L' tr (its ++ [it]) → Q (.inl (some (.int (w 1)))) (mk S I' L' R G))
    (hQ0 : ∀ k q, pItem t kd s = .inr (k, q) → ∀ I' : MI, (∀ a, a ≠ tr → I' a = I a) → (∀ j, j ≠ 7 → j ≠ 3 → j ≠ 4 → I' tr j = I tr j) → I' tr 3 = w k → I' tr 4 = w q → Q (.inl (some (.int (w 0)))) (mk S I' L R G)) :
    XC (d + 3) 71 [.ref tr, .int (w kd)] (mk S I L R G) Q := by
  obtain ⟨g0, g1, g3, g4, g5, g6, r5, gb, hb⟩ := id hS
  have h400 := hI.2.2.1
  have hbd := kdH_bd (b := t.getD s 0)
  rw [← hk] at hbd
  -- the item is put down
  have put : ∀ (v : Int) (x : List Int) (q : Nat) (I1 : MI) (o5 o6 : Option Value), pItem t kd s = .inl ((kd, v, x), q) → (∀ a, a ≠ tr → I1 a = I a) → (∀ j, j ≠ 7 → j ≠ 8 → I1 tr j = I tr j) → I1 tr 7 = w q → XX (d + 3) 71 124 [some (.ref tr), some (.int (w kd)), some (.int (w v)), some (.long (wl (pack x))), none, o5, o6] [] (mk S I1 L R G) Q := by
    intro v x q I1 o5 o6 hp f1 f2 f3
    obtain ⟨i1, i2⟩ := hit
    have e10 : I1 tr 10 = w its.length := by rw [f2 10 (by decide) (by decide)]; exact i1
    simp (disch := omega) only [q_71_0, q_71_1, q_71_2, q_71_3, q_71_4, q_71_5, q_71_8, q_71_9, q_71_12, q_71_14, q_71_16, q_71_17, q_71_20, q_71_21, q_71_22, q_71_23, q_71_25, q_71_28, q_71_29, q_71_30, q_71_31, q_71_34, q_71_37, q_71_38, q_71_39, q_71_40, q_71_41, q_71_45, q_71_48, q_71_49, q_71_51, q_71_52, q_71_53, q_71_54, q_71_57, q_71_59, q_71_60, q_71_63, q_71_64, q_71_65, q_71_66, q_71_69, q_71_72, q_71_73, q_71_75, q_71_78, q_71_81, q_71_82, q_71_83, q_71_86, q_71_87, q_71_88, q_71_91, q_71_92, q_71_94, q_71_97, q_71_98, q_71_99, q_71_101, q_71_104, q_71_107, q_71_108, q_71_109, q_71_110, q_71_112, q_71_115, q_71_116, q_71_119, q_71_120, q_71_123, q_71_125, q_71_128, q_71_131, q_71_132, q_71_135, q_71_137, q_71_140, q_71_141, q_71_144, q_71_145, q_71_148, q_71_149, q_71_150, q_71_151, q_71_154, q_71_155, q_71_158, q_71_159, q_71_160, q_71_161, q_71_164, q_71_165, q_71_168, q_71_169, q_71_170, q_71_171, q_71_172, q_71_175, q_71_176, q_71_177, q_71_180, q_71_181, q_71_e, q_71_124, va_rf_s, bz_0, bz_1, bz_ok, bb_ok, Nat.add_assoc, w_lt, w_add, w_sub, w_mul, w_div, em_def, w_eq, w_inT, ↓ilt_t, ↓ilt_f, ↓ieq_t, ↓ieq_f, ntT, w_b, w_ix, kx_v, kx_n, kl_n, kl_i, kl_r, kl_o, inA_i, inA_s, inA_b, inA_z, inA_l, inA_0, inA_4, inA_5, inA_6, inA_7, inA_8, inA_9, inA_10, al_0, al_1, al_2, al_4, al_5, al_98, bsP_2, bsP_3, wr_same, wr_wr, wr_ne, up_same, up_ne, Nat.reduceAdd, Int.reduceAdd, Int.reduceSub, Int.reduceMul, Int.reduceLT, Int.reduceLE, Int.reduceEq, Int.reduceNeg, Int.reduceToNat, Nat.reduceLT, Nat.reduceLeDiff, Nat.reduceEqDiff, ↓reduceIte, true_and, and_true, not_true_eq_false, not_false_eq_true, eq_self, or_true, true_or, or_false, false_or, if_true, if_false, Int.toNat_natCast, w_ite, Nat.add_zero, reduceCtorEq, ne_eq, g0, g4, g5, g6, e10]
    refine hQ1 _ _ hp _ _ (fun a h1 h2 h3 => by rw [wr_ne (by omega), wr_ne (by omega), wr_ne (by omega)]; exact f1 a h1) (fun a ha => wr_ne ha) (fun j j1 j2 j3 => by rw [wr_same, up_ne j3]; exact f2 j j1 j2) (by rw [wr_same, up_ne (by decide)]; exact f3) ⟨by rw [wr_same, up_same, List.length_append]; simp only [List.length_cons, List.length_nil, Nat.zero_add, Int.natCast_add, Int.natCast_one], fun i hi => ?_⟩
    rw [wr_ne (show tr + 4 ≠ tr by omega), wr_ne (show tr + 5 ≠ tr by omega), wr_ne (show tr + 4 ≠ tr + 5 by omega), wr_same, wr_same, wr_same, itD_snoc]
    by_cases c : i = its.length
    · subst c
      rw [up_same, up_same, up_same, if_pos rfl]
      exact ⟨rfl, rfl, rfl⟩
    · rw [up_ne c, up_ne c, up_ne c, if_neg c]
      rw [List.length_append] at hi
      have hi' : i < its.length := by simp only [List.length_cons, List.length_nil] at hi; omega
      have := i2 i hi'
      rw [f1 _ (by omega), f1 _ (by omega)]
      exact this
  by_cases c0 : kd = 0
  · have hl : isl (t.getD s 0) = true := kdH_0 (by rw [← hk]; exact c0)
    have he : wde t s ≤ t.length := run_le (by omega)
    have hse : s ≤ wde t s := run_ge
    have s75 := fun {d : Nat} {Q : XO → Hp → Prop} => sp_75 (d := d) (Q := Q) (L := L) (G := G) hS hI h7 (by omega)
    have hall := run_all (f := isl) (t := t) (p := s)
    have hfold : run isl t s = wde t s := rfl
    rw [hfold] at hall
    unfold pItem at hQ0 put
    rw [if_pos c0] at hQ0 put
    subst c0
    generalize wde t s = e at *
    have hlen : ((t.drop s).take (e - s)).length = e - s := by rw [List.length_take, List.length_drop]; omega
    have e1 : (e : Int) - s = ((e - s : Nat) : Int) := by omega
    by_cases c8 : 8 < e - s
    · have := hQ0 1 s (if_pos c8) (wr I tr (up (up (I tr) 3 (w 1)) 4 (w s))) (fun a ha => wr_ne ha) (fun j j1 j2 j3 => by rw [wr_same, up_ne j3, up_ne j2]) (by rw [wr_same, up_ne (by decide), up_same]) (by rw [wr_same, up_same])
      simp (disch := omega) only [q_71_0, q_71_1, q_71_2, q_71_3, q_71_4, q_71_5, q_71_8, q_71_9, q_71_12, q_71_14, q_71_16, q_71_17, q_71_20, q_71_21, q_71_22, q_71_23, q_71_25, q_71_28, q_71_29, q_71_30, q_71_31, q_71_34, q_71_37, q_71_38, q_71_39, q_71_40, q_71_41, q_71_45, q_71_48, q_71_49, q_71_51, q_71_52, q_71_53, q_71_54, q_71_57, q_71_59, q_71_60, q_71_63, q_71_64, q_71_65, q_71_66, q_71_69, q_71_72, q_71_73, q_71_75, q_71_78, q_71_81, q_71_82, q_71_83, q_71_86, q_71_87, q_71_88, q_71_91, q_71_92, q_71_94, q_71_97, q_71_98, q_71_99, q_71_101, q_71_104, q_71_107, q_71_108, q_71_109, q_71_110, q_71_112, q_71_115, q_71_116, q_71_119, q_71_120, q_71_123, q_71_125, q_71_128, q_71_131, q_71_132, q_71_135, q_71_137, q_71_140, q_71_141, q_71_144, q_71_145, q_71_148, q_71_149, q_71_150, q_71_151, q_71_154, q_71_155, q_71_158, q_71_159, q_71_160, q_71_161, q_71_164, q_71_165, q_71_168, q_71_169, q_71_170, q_71_171, q_71_172, q_71_175, q_71_176, q_71_177, q_71_180, q_71_181, q_71_e, va_rf_s, bz_0, bz_1, bz_ok, bb_ok, Nat.add_assoc, w_lt, w_add, w_sub, w_mul, w_div, em_def, w_eq, w_inT, ↓ilt_t, ↓ilt_f, ↓ieq_t, ↓ieq_f, ntT, w_b, w_ix, kx_v, kx_n, kl_n, kl_i, kl_r, kl_o, inA_i, inA_s, inA_b, inA_z, inA_l, inA_0, inA_4, inA_5, inA_6, inA_7, inA_8, inA_9, inA_10, al_0, al_1, al_2, al_4, al_5, al_98, bsP_2, bsP_3, wr_same, wr_wr, wr_ne, up_same, up_ne, Nat.reduceAdd, Int.reduceAdd, Int.reduceSub, Int.reduceMul, Int.reduceLT, Int.reduceLE, Int.reduceEq, Int.reduceNeg, Int.reduceToNat, Nat.reduceLT, Nat.reduceLeDiff, Nat.reduceEqDiff, ↓reduceIte, true_and, and_true, not_true_eq_false, not_false_eq_true, eq_self, or_true, true_or, or_false, false_or, if_true, if_false, Int.toNat_natCast, w_ite, Nat.add_zero, reduceCtorEq, ne_eq, g0, s75, h7, e1, sp_79 g0]
      exact this
    · rw [if_neg c8] at put
      generalize hx : (t.drop s).take (e - s) = x at *
      have hxb : ∀ c ∈ x, 0 ≤ c ∧ c < 128 := fun c hc => by
        have := hall c hc
        unfold isl at this
        rw [Bool.and_eq_true, decide_eq_true_eq, decide_eq_true_eq] at this
        omega
      have hget : ∀ i, i < x.length → t.getD (s + i) 0 = x.getD i 0 := fun i hi => by
        rw [← hx, List.getD_eq_getElem?_getD, List.getD_eq_getElem?_getD, List.getElem?_take_of_lt (by omega), List.getElem?_drop]
      have lp : ∀ (j : Nat) (o : Option Value), j ≤ x.length → XX (d + 3) 71 43 [some (.ref tr), some (.int (w 0)), some (.int (w (e - s : Nat))), some (.long (wl (pack (x.drop j)))), none, some (.int (w e)), some (.int (w ((j : Int) - 1)))] [] (mk S I L R G) Q := by
        intro j
        induction j with
        | zero =>
          intro o hj
          have := put (e - s : Nat) x e (wr I tr (up (I tr) 7 (w e))) (some (.int (w e))) (some (.int (w (0 - 1)))) rfl (fun a ha => wr_ne ha) (fun j j1 j2 => by rw [wr_same, up_ne j1]) (by rw [wr_same, up_same])
          rw [List.drop_zero, q_71_43]
          simp (disch := omega) only [q_71_0, q_71_1, q_71_2, q_71_3, q_71_4, q_71_5, q_71_8, q_71_9, q_71_12, q_71_14, q_71_16, q_71_17, q_71_20, q_71_21, q_71_22, q_71_23, q_71_25, q_71_28, q_71_29, q_71_30, q_71_31, q_71_34, q_71_37, q_71_38, q_71_39, q_71_40, q_71_41, q_71_45, q_71_48, q_71_49, q_71_51, q_71_52, q_71_53, q_71_54, q_71_57, q_71_59, q_71_60, q_71_63, q_71_64, q_71_65, q_71_66, q_71_69, q_71_72, q_71_73, q_71_75, q_71_78, q_71_81, q_71_82, q_71_83, q_71_86, q_71_87, q_71_88, q_71_91, q_71_92, q_71_94, q_71_97, q_71_98, q_71_99, q_71_101, q_71_104, q_71_107, q_71_108, q_71_109, q_71_110, q_71_112, q_71_115, q_71_116, q_71_119, q_71_120, q_71_123, q_71_125, q_71_128, q_71_131, q_71_132, q_71_135, q_71_137, q_71_140, q_71_141, q_71_144, q_71_145, q_71_148, q_71_149, q_71_150, q_71_151, q_71_154, q_71_155, q_71_158, q_71_159, q_71_160, q_71_161, q_71_164, q_71_165, q_71_168, q_71_169, q_71_170, q_71_171, q_71_172, q_71_175, q_71_176, q_71_177, q_71_180, q_71_181, q_71_e, va_rf_s, bz_0, bz_1, bz_ok, bb_ok, Nat.add_assoc, w_lt, w_add, w_sub, w_mul, w_div, em_def, w_eq, w_inT, ↓ilt_t, ↓ilt_f, ↓ieq_t, ↓ieq_f, ntT, w_b, w_ix, kx_v, kx_n, kl_n, kl_i, kl_r, kl_o, inA_i, inA_s, inA_b, inA_z, inA_l, inA_0, inA_4, inA_5, inA_6, inA_7, inA_8, inA_9, inA_10, al_0, al_1, al_2, al_4, al_5, al_98, bsP_2, bsP_3, wr_same, wr_wr, wr_ne, up_same, up_ne, Nat.reduceAdd, Int.reduceAdd, Int.reduceSub, Int.reduceMul, Int.reduceLT, Int.reduceLE, Int.reduceEq, Int.reduceNeg, Int.reduceToNat, Nat.reduceLT, Nat.reduceLeDiff, Nat.reduceEqDiff, ↓reduceIte, true_and, and_true, not_true_eq_false, not_false_eq_true, eq_self, or_true, true_or, or_false, false_or, if_true, if_false, Int.toNat_natCast, w_ite, Nat.add_zero, reduceCtorEq, ne_eq, g0, Int.natCast_zero]
          exact this
        | succ j ih =>
          intro o hj
          have hsj : s + j < t.length := by omega
          have s78 := fun {d : Nat} {Q : XO → Hp → Prop} => sp_78 (d := d) (Q := Q) (L := L) (G := G) hS hI hsj
          have esj : ((s + j : Nat) : Int) = (s : Int) + j := by omega
          rw [hget j (by omega), esj] at s78
          have hp1 := pack_sm (i := j) hxb (by omega)
          have hb1 := hxb (x.getD j 0) (by rw [List.getD_eq_getElem?_getD, List.getElem?_eq_getElem (by omega)]; exact List.getElem_mem _)
          have esh := w_shl hp1.1 hp1.2 hb1.1 (show x.getD j 0 < 256 by omega)
          have := ih none (by omega)
          rw [pack_drop (show j < x.length by omega), Int.add_comm] at this
          have ej : ((j + 1 : Nat) : Int) - 1 = j := by omega
          rw [ej, q_71_43]
          have ej2 : (j : Int) - 1 = j + -1 := rfl
          rw [ej2] at this
          simp (disch := omega) only [q_71_0, q_71_1, q_71_2, q_71_3, q_71_4, q_71_5, q_71_8, q_71_9, q_71_12, q_71_14, q_71_16, q_71_17, q_71_20, q_71_21, q_71_22, q_71_23, q_71_25, q_71_28, q_71_29, q_71_30, q_71_31, q_71_34, q_71_37, q_71_38, q_71_39, q_71_40, q_71_41, q_71_45, q_71_48, q_71_49, q_71_51, q_71_52, q_71_53, q_71_54, q_71_57, q_71_59, q_71_60, q_71_63, q_71_64, q_71_65, q_71_66, q_71_69, q_71_72, q_71_73, q_71_75, q_71_78, q_71_81, q_71_82, q_71_83, q_71_86, q_71_87, q_71_88, q_71_91, q_71_92, q_71_94, q_71_97, q_71_98, q_71_99, q_71_101, q_71_104, q_71_107, q_71_108, q_71_109, q_71_110, q_71_112, q_71_115, q_71_116, q_71_119, q_71_120, q_71_123, q_71_125, q_71_128, q_71_131, q_71_132, q_71_135, q_71_137, q_71_140, q_71_141, q_71_144, q_71_145, q_71_148, q_71_149, q_71_150, q_71_151, q_71_154, q_71_155, q_71_158, q_71_159, q_71_160, q_71_161, q_71_164, q_71_165, q_71_168, q_71_169, q_71_170, q_71_171, q_71_172, q_71_175, q_71_176, q_71_177, q_71_180, q_71_181, q_71_e, va_rf_s, bz_0, bz_1, bz_ok, bb_ok, Nat.add_assoc, w_lt, w_add, w_sub, w_mul, w_div, em_def, w_eq, w_inT, ↓ilt_t, ↓ilt_f, ↓ieq_t, ↓ieq_f, ntT, w_b, w_ix, kx_v, kx_n, kl_n, kl_i, kl_r, kl_o, inA_i, inA_s, inA_b, inA_z, inA_l, inA_0, inA_4, inA_5, inA_6, inA_7, inA_8, inA_9, inA_10, al_0, al_1, al_2, al_4, al_5, al_98, bsP_2, bsP_3, wr_same, wr_wr, wr_ne, up_same, up_ne, Nat.reduceAdd, Int.reduceAdd, Int.reduceSub, Int.reduceMul, Int.reduceLT, Int.reduceLE, Int.reduceEq, Int.reduceNeg, Int.reduceToNat, Nat.reduceLT, Nat.reduceLeDiff, Nat.reduceEqDiff, ↓reduceIte, true_and, and_true, not_true_eq_false, not_false_eq_true, eq_self, or_true, true_or, or_false, false_or, if_true, if_false, Int.toNat_natCast, w_ite, Nat.add_zero, reduceCtorEq, ne_eq, g0, h7, s78, esh]
          exact this
      have := lp (e - s) none (by omega)
      have enil : x.drop (e - s) = [] := List.drop_eq_nil_of_le (by omega)
      rw [enil] at this
      have ep : pack [] = 0 := rfl
      rw [ep] at this
      simp (disch := omega) only [q_71_0, q_71_1, q_71_2, q_71_3, q_71_4, q_71_5, q_71_8, q_71_9, q_71_12, q_71_14, q_71_16, q_71_17, q_71_20, q_71_21, q_71_22, q_71_23, q_71_25, q_71_28, q_71_29, q_71_30, q_71_31, q_71_34, q_71_37, q_71_38, q_71_39, q_71_40, q_71_41, q_71_45, q_71_48, q_71_49, q_71_51, q_71_52, q_71_53, q_71_54, q_71_57, q_71_59, q_71_60, q_71_63, q_71_64, q_71_65, q_71_66, q_71_69, q_71_72, q_71_73, q_71_75, q_71_78, q_71_81, q_71_82, q_71_83, q_71_86, q_71_87, q_71_88, q_71_91, q_71_92, q_71_94, q_71_97, q_71_98, q_71_99, q_71_101, q_71_104, q_71_107, q_71_108, q_71_109, q_71_110, q_71_112, q_71_115, q_71_116, q_71_119, q_71_120, q_71_123, q_71_125, q_71_128, q_71_131, q_71_132, q_71_135, q_71_137, q_71_140, q_71_141, q_71_144, q_71_145, q_71_148, q_71_149, q_71_150, q_71_151, q_71_154, q_71_155, q_71_158, q_71_159, q_71_160, q_71_161, q_71_164, q_71_165, q_71_168, q_71_169, q_71_170, q_71_171, q_71_172, q_71_175, q_71_176, q_71_177, q_71_180, q_71_181, q_71_e, va_rf_s, bz_0, bz_1, bz_ok, bb_ok, Nat.add_assoc, w_lt, w_add, w_sub, w_mul, w_div, em_def, w_eq, w_inT, ↓ilt_t, ↓ilt_f, ↓ieq_t, ↓ieq_f, ntT, w_b, w_ix, kx_v, kx_n, kl_n, kl_i, kl_r, kl_o, inA_i, inA_s, inA_b, inA_z, inA_l, inA_0, inA_4, inA_5, inA_6, inA_7, inA_8, inA_9, inA_10, al_0, al_1, al_2, al_4, al_5, al_98, bsP_2, bsP_3, wr_same, wr_wr, wr_ne, up_same, up_ne, Nat.reduceAdd, Int.reduceAdd, Int.reduceSub, Int.reduceMul, Int.reduceLT, Int.reduceLE, Int.reduceEq, Int.reduceNeg, Int.reduceToNat, Nat.reduceLT, Nat.reduceLeDiff, Nat.reduceEqDiff, ↓reduceIte, true_and, and_true, not_true_eq_false, not_false_eq_true, eq_self, or_true, true_or, or_false, false_or, if_true, if_false, Int.toNat_natCast, w_ite, Nat.add_zero, reduceCtorEq, ne_eq, g0, s75, h7, e1]
      exact this
  · by_cases c6 : kd = 6
    · unfold pItem at put
      rw [if_neg c0, if_pos c6] at put
      subst c6
      have := put 0 [] (s + 1) (wr I tr (up (I tr) 7 (w (s + 1 : Nat)))) none none rfl (fun a ha => wr_ne ha) (fun j j1 j2 => by rw [wr_same, up_ne j1]) (by rw [wr_same, up_same])
      have ep : pack [] = 0 := rfl
      rw [ep] at this
      simp only [Int.natCast_add, Int.natCast_one] at this
      simp (disch := omega) only [q_71_0, q_71_1, q_71_2, q_71_3, q_71_4, q_71_5, q_71_8, q_71_9, q_71_12, q_71_14, q_71_16, q_71_17, q_71_20, q_71_21, q_71_22, q_71_23, q_71_25, q_71_28, q_71_29, q_71_30, q_71_31, q_71_34, q_71_37, q_71_38, q_71_39, q_71_40, q_71_41, q_71_45, q_71_48, q_71_49, q_71_51, q_71_52, q_71_53, q_71_54, q_71_57, q_71_59, q_71_60, q_71_63, q_71_64, q_71_65, q_71_66, q_71_69, q_71_72, q_71_73, q_71_75, q_71_78, q_71_81, q_71_82, q_71_83, q_71_86, q_71_87, q_71_88, q_71_91, q_71_92, q_71_94, q_71_97, q_71_98, q_71_99, q_71_101, q_71_104, q_71_107, q_71_108, q_71_109, q_71_110, q_71_112, q_71_115, q_71_116, q_71_119, q_71_120, q_71_123, q_71_125, q_71_128, q_71_131, q_71_132, q_71_135, q_71_137, q_71_140, q_71_141, q_71_144, q_71_145, q_71_148, q_71_149, q_71_150, q_71_151, q_71_154, q_71_155, q_71_158, q_71_159, q_71_160, q_71_161, q_71_164, q_71_165, q_71_168, q_71_169, q_71_170, q_71_171, q_71_172, q_71_175, q_71_176, q_71_177, q_71_180, q_71_181, q_71_e, va_rf_s, bz_0, bz_1, bz_ok, bb_ok, Nat.add_assoc, w_lt, w_add, w_sub, w_mul, w_div, em_def, w_eq, w_inT, ↓ilt_t, ↓ilt_f, ↓ieq_t, ↓ieq_f, ntT, w_b, w_ix, kx_v, kx_n, kl_n, kl_i, kl_r, kl_o, inA_i, inA_s, inA_b, inA_z, inA_l, inA_0, inA_4, inA_5, inA_6, inA_7, inA_8, inA_9, inA_10, al_0, al_1, al_2, al_4, al_5, al_98, bsP_2, bsP_3, wr_same, wr_wr, wr_ne, up_same, up_ne, Nat.reduceAdd, Int.reduceAdd, Int.reduceSub, Int.reduceMul, Int.reduceLT, Int.reduceLE, Int.reduceEq, Int.reduceNeg, Int.reduceToNat, Nat.reduceLT, Nat.reduceLeDiff, Nat.reduceEqDiff, ↓reduceIte, true_and, and_true, not_true_eq_false, not_false_eq_true, eq_self, or_true, true_or, or_false, false_or, if_true, if_false, Int.toNat_natCast, w_ite, Nat.add_zero, reduceCtorEq, ne_eq, g0, h7]
      exact this
    · unfold pItem at put hQ0
      rw [if_neg c0, if_neg c6] at put hQ0
      have h7' : (wr I tr (up (I tr) 7 (w (s + 1)))) tr 7 = w ((s + 1 : Nat) : Int) := by rw [wr_same, up_same]; simp only [Int.natCast_add, Int.natCast_one]
      simp (disch := omega) only [q_71_0, q_71_1, q_71_2, q_71_3, q_71_4, q_71_5, q_71_8, q_71_9, q_71_12, q_71_14, q_71_16, q_71_17, q_71_20, q_71_21, q_71_22, q_71_23, q_71_25, q_71_28, q_71_29, q_71_30, q_71_31, q_71_34, q_71_37, q_71_38, q_71_39, q_71_40, q_71_41, q_71_45, q_71_48, q_71_49, q_71_51, q_71_52, q_71_53, q_71_54, q_71_57, q_71_59, q_71_60, q_71_63, q_71_64, q_71_65, q_71_66, q_71_69, q_71_72, q_71_73, q_71_75, q_71_78, q_71_81, q_71_82, q_71_83, q_71_86, q_71_87, q_71_88, q_71_91, q_71_92, q_71_94, q_71_97, q_71_98, q_71_99, q_71_101, q_71_104, q_71_107, q_71_108, q_71_109, q_71_110, q_71_112, q_71_115, q_71_116, q_71_119, q_71_120, q_71_123, q_71_125, q_71_128, q_71_131, q_71_132, q_71_135, q_71_137, q_71_140, q_71_141, q_71_144, q_71_145, q_71_148, q_71_149, q_71_150, q_71_151, q_71_154, q_71_155, q_71_158, q_71_159, q_71_160, q_71_161, q_71_164, q_71_165, q_71_168, q_71_169, q_71_170, q_71_171, q_71_172, q_71_175, q_71_176, q_71_177, q_71_180, q_71_181, q_71_e, va_rf_s, bz_0, bz_1, bz_ok, bb_ok, Nat.add_assoc, w_lt, w_add, w_sub, w_mul, w_div, em_def, w_eq, w_inT, ↓ilt_t, ↓ilt_f, ↓ieq_t, ↓ieq_f, ntT, w_b, w_ix, kx_v, kx_n, kl_n, kl_i, kl_r, kl_o, inA_i, inA_s, inA_b, inA_z, inA_l, inA_0, inA_4, inA_5, inA_6, inA_7, inA_8, inA_9, inA_10, al_0, al_1, al_2, al_4, al_5, al_98, bsP_2, bsP_3, wr_same, wr_wr, wr_ne, up_same, up_ne, Nat.reduceAdd, Int.reduceAdd, Int.reduceSub, Int.reduceMul, Int.reduceLT, Int.reduceLE, Int.reduceEq, Int.reduceNeg, Int.reduceToNat, Nat.reduceLT, Nat.reduceLeDiff, Nat.reduceEqDiff, ↓reduceIte, true_and, and_true, not_true_eq_false, not_false_eq_true, eq_self, or_true, true_or, or_false, false_or, if_true, if_false, Int.toNat_natCast, w_ite, Nat.add_zero, reduceCtorEq, ne_eq, g0, h7]
      refine sp_73 (p := s + 1) (lo := 1) (hi := 999999) hS (hI.keep (wr_ne (by omega)) (by rw [wr_same, up_ne (by decide)])) h7' (by omega) (by decide) (by decide) (by decide) (by decide) (fun v q hn I2 f1 f2 f3 f4 => ?_) (fun k q hn I2 f1 f2 f3 f4 => ?_)
      · have := put v [] q I2 none none (by rw [hn]) (fun a ha => by rw [f1 a ha, wr_ne ha]) (fun j j1 j2 => by rw [f2 j j1 j2, wr_same, up_ne j1]) f3
        have ep : pack [] = 0 := rfl
        rw [ep] at this
        simp (disch := omega) only [q_71_0, q_71_1, q_71_2, q_71_3, q_71_4, q_71_5, q_71_8, q_71_9, q_71_12, q_71_14, q_71_16, q_71_17, q_71_20, q_71_21, q_71_22, q_71_23, q_71_25, q_71_28, q_71_29, q_71_30, q_71_31, q_71_34, q_71_37, q_71_38, q_71_39, q_71_40, q_71_41, q_71_45, q_71_48, q_71_49, q_71_51, q_71_52, q_71_53, q_71_54, q_71_57, q_71_59, q_71_60, q_71_63, q_71_64, q_71_65, q_71_66, q_71_69, q_71_72, q_71_73, q_71_75, q_71_78, q_71_81, q_71_82, q_71_83, q_71_86, q_71_87, q_71_88, q_71_91, q_71_92, q_71_94, q_71_97, q_71_98, q_71_99, q_71_101, q_71_104, q_71_107, q_71_108, q_71_109, q_71_110, q_71_112, q_71_115, q_71_116, q_71_119, q_71_120, q_71_123, q_71_125, q_71_128, q_71_131, q_71_132, q_71_135, q_71_137, q_71_140, q_71_141, q_71_144, q_71_145, q_71_148, q_71_149, q_71_150, q_71_151, q_71_154, q_71_155, q_71_158, q_71_159, q_71_160, q_71_161, q_71_164, q_71_165, q_71_168, q_71_169, q_71_170, q_71_171, q_71_172, q_71_175, q_71_176, q_71_177, q_71_180, q_71_181, q_71_e, va_rf_s, bz_0, bz_1, bz_ok, bb_ok, Nat.add_assoc, w_lt, w_add, w_sub, w_mul, w_div, em_def, w_eq, w_inT, ↓ilt_t, ↓ilt_f, ↓ieq_t, ↓ieq_f, ntT, w_b, w_ix, kx_v, kx_n, kl_n, kl_i, kl_r, kl_o, inA_i, inA_s, inA_b, inA_z, inA_l, inA_0, inA_4, inA_5, inA_6, inA_7, inA_8, inA_9, inA_10, al_0, al_1, al_2, al_4, al_5, al_98, bsP_2, bsP_3, wr_same, wr_wr, wr_ne, up_same, up_ne, Nat.reduceAdd, Int.reduceAdd, Int.reduceSub, Int.reduceMul, Int.reduceLT, Int.reduceLE, Int.reduceEq, Int.reduceNeg, Int.reduceToNat, Nat.reduceLT, Nat.reduceLeDiff, Nat.reduceEqDiff, ↓reduceIte, true_and, and_true, not_true_eq_false, not_false_eq_true, eq_self, or_true, true_or, or_false, false_or, if_true, if_false, Int.toNat_natCast, w_ite, Nat.add_zero, reduceCtorEq, ne_eq, g0, f4]
        exact this
      · have := hQ0 k q (by rw [hn]) I2 (fun a ha => by rw [f1 a ha, wr_ne ha]) (fun j j1 j2 j3 => by rw [f2 j j1 j2 j3, wr_same, up_ne j1]) f3 f4
        simp (disch := omega) only [q_71_0, q_71_1, q_71_2, q_71_3, q_71_4, q_71_5, q_71_8, q_71_9, q_71_12, q_71_14, q_71_16, q_71_17, q_71_20, q_71_21, q_71_22, q_71_23, q_71_25, q_71_28, q_71_29, q_71_30, q_71_31, q_71_34, q_71_37, q_71_38, q_71_39, q_71_40, q_71_41, q_71_45, q_71_48, q_71_49, q_71_51, q_71_52, q_71_53, q_71_54, q_71_57, q_71_59, q_71_60, q_71_63, q_71_64, q_71_65, q_71_66, q_71_69, q_71_72, q_71_73, q_71_75, q_71_78, q_71_81, q_71_82, q_71_83, q_71_86, q_71_87, q_71_88, q_71_91, q_71_92, q_71_94, q_71_97, q_71_98, q_71_99, q_71_101, q_71_104, q_71_107, q_71_108, q_71_109, q_71_110, q_71_112, q_71_115, q_71_116, q_71_119, q_71_120, q_71_123, q_71_125, q_71_128, q_71_131, q_71_132, q_71_135, q_71_137, q_71_140, q_71_141, q_71_144, q_71_145, q_71_148, q_71_149, q_71_150, q_71_151, q_71_154, q_71_155, q_71_158, q_71_159, q_71_160, q_71_161, q_71_164, q_71_165, q_71_168, q_71_169, q_71_170, q_71_171, q_71_172, q_71_175, q_71_176, q_71_177, q_71_180, q_71_181, q_71_e, va_rf_s, bz_0, bz_1, bz_ok, bb_ok, Nat.add_assoc, w_lt, w_add, w_sub, w_mul, w_div, em_def, w_eq, w_inT, ↓ilt_t, ↓ilt_f, ↓ieq_t, ↓ieq_f, ntT, w_b, w_ix, kx_v, kx_n, kl_n, kl_i, kl_r, kl_o, inA_i, inA_s, inA_b, inA_z, inA_l, inA_0, inA_4, inA_5, inA_6, inA_7, inA_8, inA_9, inA_10, al_0, al_1, al_2, al_4, al_5, al_98, bsP_2, bsP_3, wr_same, wr_wr, wr_ne, up_same, up_ne, Nat.reduceAdd, Int.reduceAdd, Int.reduceSub, Int.reduceMul, Int.reduceLT, Int.reduceLE, Int.reduceEq, Int.reduceNeg, Int.reduceToNat, Nat.reduceLT, Nat.reduceLeDiff, Nat.reduceEqDiff, ↓reduceIte, true_and, and_true, not_true_eq_false, not_false_eq_true, eq_self, or_true, true_or, or_false, false_or, if_true, if_false, Int.toNat_natCast, w_ite, Nat.add_zero, reduceCtorEq, ne_eq]
        exact this
end

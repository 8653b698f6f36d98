/-! small methods: the tape, the history, the causes' answer -/
theorem u32_sh {x : Int} {s : Int} {k : Nat} (hk : ((w s).toUInt32 &&& Int32.toUInt32 31).toNat % 32 = k) : ((w x).toUInt32 >>> ((w s).toUInt32 &&& Int32.toUInt32 31)).toInt32 = w ((x % 4294967296).toNat / 2 ^ k : Nat) := by
  have e1 : (w x).toUInt32.toNat = (x % 4294967296).toNat := by
    show (BitVec.ofInt 32 x).toNat = _
    rw [BitVec.toNat_ofInt]; rfl
  have e : ∀ X : UInt32, X.toInt32 = w X.toNat := by
    intro X
    apply Int32.toBitVec_inj.mp
    show X.toBitVec = BitVec.ofInt 32 X.toNat
    rw [BitVec.ofInt_natCast]
    apply BitVec.eq_of_toNat_eq
    rw [BitVec.toNat_ofNat]
    exact (Nat.mod_eq_of_lt X.toNat_lt).symm
  rw [e, UInt32.toNat_shiftRight, hk, e1, Nat.shiftRight_eq_div_pow]
/-- the byte of an int from a place on -/
def byt (x : Int) (k : Nat) : Int := x / 2 ^ k % 256
theorem sb_bm {z : Int} : z.bmod 256 = sb (z % 256) := by rw [bm_8]; rfl
theorem byt_24 {x : Int} : (((w x).toUInt32 >>> ((w 24).toUInt32 &&& Int32.toUInt32 31)).toInt32).toInt8.toInt32 = w (sb (byt x 24)) := by
  rw [u32_sh (k := 24) (by decide), w_bm, sb_bm]; unfold byt; congr 2; show (((x % 4294967296).toNat / 16777216 : Nat) : Int) % 256 = x / 16777216 % 256; omega
theorem byt_16 {x : Int} : (((w x).toUInt32 >>> ((w 16).toUInt32 &&& Int32.toUInt32 31)).toInt32).toInt8.toInt32 = w (sb (byt x 16)) := by
  rw [u32_sh (k := 16) (by decide), w_bm, sb_bm]; unfold byt; congr 2; show (((x % 4294967296).toNat / 65536 : Nat) : Int) % 256 = x / 65536 % 256; omega
theorem byt_8 {x : Int} : (((w x).toUInt32 >>> ((w 8).toUInt32 &&& Int32.toUInt32 31)).toInt32).toInt8.toInt32 = w (sb (byt x 8)) := by
  rw [u32_sh (k := 8) (by decide), w_bm, sb_bm]; unfold byt; congr 2; show (((x % 4294967296).toNat / 256 : Nat) : Int) % 256 = x / 256 % 256; omega
theorem byt_0 {x : Int} : (((w x).toUInt32 >>> ((w 0).toUInt32 &&& Int32.toUInt32 31)).toInt32).toInt8.toInt32 = w (sb (byt x 0)) := by
  rw [u32_sh (k := 0) (by decide), w_bm, sb_bm]; unfold byt; congr 2; show (((x % 4294967296).toNat / 1 : Nat) : Int) % 256 = x / 1 % 256; omega
theorem byt_bd {x : Int} {k : Nat} : 0 ≤ byt x k ∧ byt x k < 256 := by unfold byt; omega
def b4 (x : Int) : List Int := [byt x 24, byt x 16, byt x 8, byt x 0]
def TapeS (S : SH) (t : Nat) : Prop := S t = some (.inr 7) ∧ S (t + 1) = some (.inl (2, 400))
def TapeAt (I : MI) (t : Nat) (tp : List Int) : Prop := I t 1 = w tp.length ∧ Txt (I (t + 1)) 0 (tp.map sb)
def HistS (S : SH) (R : MR) (h : Nat) : Prop := S h = some (.inr 3) ∧ S (h + 1) = some (.inl (5, 12)) ∧ ∀ i, i < 12 → R (h + 1) i = some (h + 2 + 3 * i) ∧ BookS S (h + 2 + 3 * i)
section
variable {d : Nat} {Q : XO → Hp → Prop} {S : SH} {I : MI} {L : ML} {R : MR} {G : MG} {A : Hp}
theorem sp_42 {k : Nat} (h : S k = some (.inr 5)) : XC d 42 [.ref k] (mk S I L R G) Q ↔ Q (.inl none) (mk S (wr I k (up (I k) 4 (w (-1)))) L R G) := by
  simp (disch := omega) only [q_42_0, q_42_1, q_42_2, q_42_5, q_42_e, va_rf_s, bz_0, bz_1, bz_ok, bb_ok, Nat.add_assoc, w_lt, w_add, w_sub, w_mul, w_div, em_def, w_eq, w_inT, ↓ilt_t, ↓ilt_f, ↓ieq_t, ↓ieq_f, ntT, w_b, w_ix, kx_v, kx_n, kl_n, kl_i, kl_r, kl_o, inA_i, inA_s, inA_b, inA_z, inA_l, inA_0, inA_4, inA_5, inA_6, inA_7, inA_8, inA_9, inA_10, al_0, al_1, al_2, al_4, al_5, al_98, bsP_2, bsP_3, wr_same, wr_wr, wr_ne, up_same, up_ne, Nat.reduceAdd, Int.reduceAdd, Int.reduceSub, Int.reduceMul, Int.reduceLT, Int.reduceLE, Int.reduceEq, Int.reduceNeg, Int.reduceToNat, Nat.reduceLT, Nat.reduceLeDiff, Nat.reduceEqDiff, ↓reduceIte, true_and, and_true, not_true_eq_false, not_false_eq_true, eq_self, or_true, true_or, or_false, false_or, if_true, if_false, Int.toNat_natCast, w_ite, Nat.add_zero, reduceCtorEq, ne_eq, h]
theorem sp_63 {t : Nat} {tp : List Int} {x : Int} (hS : TapeS S t) (hT : TapeAt I t tp) (hl : tp.length + 4 ≤ 400)
    (hQ : ∀ I' : MI, (∀ a, a ≠ t → a ≠ t + 1 → I' a = I a) → TapeAt I' t (tp ++ b4 x) → Q (.inl none) (mk S I' L R G)) :
    XC d 63 [.ref t, .int (w x)] (mk S I L R G) Q := by
  obtain ⟨g0, g1⟩ := hS
  have key : ∀ (sh : Int) (k : Nat) (tq : List Int) (I1 : MI), 0 ≤ sh → sh ≤ 24 → (((w x).toUInt32 >>> ((w sh).toUInt32 &&& Int32.toUInt32 31)).toInt32).toInt8.toInt32 = w (sb (byt x k)) → TapeAt I1 t tq → tq.length < 400 → (∀ a, a ≠ t → a ≠ t + 1 → I1 a = I a) →
      (∀ I2 : MI, (∀ a, a ≠ t → a ≠ t + 1 → I2 a = I a) → TapeAt I2 t (tq ++ [byt x k]) → XX d 63 3 [some (.ref t), some (.int (w x)), some (.int (w (sh + -8)))] [] (mk S I2 L R G) Q) → XX d 63 3 [some (.ref t), some (.int (w x)), some (.int (w sh))] [] (mk S I1 L R G) Q := by
    intro sh k tq I1 h0 h24 hb hT hl hf hn
    obtain ⟨t1, t2⟩ := hT
    have hbd := sb_bd (byt_bd (x := x) (k := k)).1 (byt_bd (x := x) (k := k)).2
    rw [q_63_3]
    simp (disch := omega) only [q_63_0, q_63_2, q_63_4, q_63_7, q_63_8, q_63_11, q_63_14, q_63_15, q_63_18, q_63_19, q_63_22, q_63_23, q_63_26, q_63_27, q_63_30, q_63_31, q_63_34, q_63_35, q_63_36, q_63_37, q_63_38, q_63_39, q_63_40, q_63_41, q_63_44, q_63_45, q_63_46, q_63_49, q_63_52, q_63_55, q_63_e, va_rf_s, bz_0, bz_1, bz_ok, bb_ok, Nat.add_assoc, w_lt, w_add, w_sub, w_mul, w_div, em_def, w_eq, w_inT, ↓ilt_t, ↓ilt_f, ↓ieq_t, ↓ieq_f, ntT, w_b, w_ix, kx_v, kx_n, kl_n, kl_i, kl_r, kl_o, inA_i, inA_s, inA_b, inA_z, inA_l, inA_0, inA_4, inA_5, inA_6, inA_7, inA_8, inA_9, inA_10, al_0, al_1, al_2, al_4, al_5, al_98, bsP_2, bsP_3, wr_same, wr_wr, wr_ne, up_same, up_ne, Nat.reduceAdd, Int.reduceAdd, Int.reduceSub, Int.reduceMul, Int.reduceLT, Int.reduceLE, Int.reduceEq, Int.reduceNeg, Int.reduceToNat, Nat.reduceLT, Nat.reduceLeDiff, Nat.reduceEqDiff, ↓reduceIte, true_and, and_true, not_true_eq_false, not_false_eq_true, eq_self, or_true, true_or, or_false, false_or, if_true, if_false, Int.toNat_natCast, w_ite, Nat.add_zero, reduceCtorEq, ne_eq, g0, g1, t1, hb]
    refine hn _ (fun a h1 h2 => by rw [wr_ne h1, wr_ne h2, hf a h1 h2]) ⟨?_, ?_⟩
    · rw [wr_same, up_same, List.length_append]; rfl
    · rw [wr_ne (by omega), wr_same, List.map_append]
      have := Txt_snoc (x := sb (byt x k)) t2
      rw [List.length_map, Nat.zero_add] at this
      exact this
  have h0 : XX d 63 3 [some (.ref t), some (.int (w x)), some (.int (w 24))] [] (mk S I L R G) Q := by
    refine key 24 24 tp I (by decide) (by decide) byt_24 hT (by omega) (fun _ _ _ => rfl) (fun I2 f2 T2 => ?_)
    refine key 16 16 _ I2 (by decide) (by decide) byt_16 T2 (by rw [List.length_append]; show tp.length + 1 < 400; omega) f2 (fun I3 f3 T3 => ?_)
    refine key 8 8 _ I3 (by decide) (by decide) byt_8 T3 (by rw [List.length_append, List.length_append]; show tp.length + 1 + 1 < 400; omega) f3 (fun I4 f4 T4 => ?_)
    refine key 0 0 _ I4 (by decide) (by decide) byt_0 T4 (by rw [List.length_append, List.length_append, List.length_append]; show tp.length + 1 + 1 + 1 < 400; omega) f4 (fun I5 f5 T5 => ?_)
    rw [q_63_3]
    simp (disch := omega) only [q_63_0, q_63_2, q_63_4, q_63_7, q_63_8, q_63_11, q_63_14, q_63_15, q_63_18, q_63_19, q_63_22, q_63_23, q_63_26, q_63_27, q_63_30, q_63_31, q_63_34, q_63_35, q_63_36, q_63_37, q_63_38, q_63_39, q_63_40, q_63_41, q_63_44, q_63_45, q_63_46, q_63_49, q_63_52, q_63_55, q_63_e, va_rf_s, bz_0, bz_1, bz_ok, bb_ok, Nat.add_assoc, w_lt, w_add, w_sub, w_mul, w_div, em_def, w_eq, w_inT, ↓ilt_t, ↓ilt_f, ↓ieq_t, ↓ieq_f, ntT, w_b, w_ix, kx_v, kx_n, kl_n, kl_i, kl_r, kl_o, inA_i, inA_s, inA_b, inA_z, inA_l, inA_0, inA_4, inA_5, inA_6, inA_7, inA_8, inA_9, inA_10, al_0, al_1, al_2, al_4, al_5, al_98, bsP_2, bsP_3, wr_same, wr_wr, wr_ne, up_same, up_ne, Nat.reduceAdd, Int.reduceAdd, Int.reduceSub, Int.reduceMul, Int.reduceLT, Int.reduceLE, Int.reduceEq, Int.reduceNeg, Int.reduceToNat, Nat.reduceLT, Nat.reduceLeDiff, Nat.reduceEqDiff, ↓reduceIte, true_and, and_true, not_true_eq_false, not_false_eq_true, eq_self, or_true, true_or, or_false, false_or, if_true, if_false, Int.toNat_natCast, w_ite, Nat.add_zero, reduceCtorEq, ne_eq]
    refine hQ I5 f5 ?_
    rw [List.append_assoc, List.append_assoc, List.append_assoc] at T5
    exact T5
  simp (disch := omega) only [q_63_0, q_63_2, q_63_4, q_63_7, q_63_8, q_63_11, q_63_14, q_63_15, q_63_18, q_63_19, q_63_22, q_63_23, q_63_26, q_63_27, q_63_30, q_63_31, q_63_34, q_63_35, q_63_36, q_63_37, q_63_38, q_63_39, q_63_40, q_63_41, q_63_44, q_63_45, q_63_46, q_63_49, q_63_52, q_63_55, q_63_e, va_rf_s, bz_0, bz_1, bz_ok, bb_ok, Nat.add_assoc, w_lt, w_add, w_sub, w_mul, w_div, em_def, w_eq, w_inT, ↓ilt_t, ↓ilt_f, ↓ieq_t, ↓ieq_f, ntT, w_b, w_ix, kx_v, kx_n, kl_n, kl_i, kl_r, kl_o, inA_i, inA_s, inA_b, inA_z, inA_l, inA_0, inA_4, inA_5, inA_6, inA_7, inA_8, inA_9, inA_10, al_0, al_1, al_2, al_4, al_5, al_98, bsP_2, bsP_3, wr_same, wr_wr, wr_ne, up_same, up_ne, Nat.reduceAdd, Int.reduceAdd, Int.reduceSub, Int.reduceMul, Int.reduceLT, Int.reduceLE, Int.reduceEq, Int.reduceNeg, Int.reduceToNat, Nat.reduceLT, Nat.reduceLeDiff, Nat.reduceEqDiff, ↓reduceIte, true_and, and_true, not_true_eq_false, not_false_eq_true, eq_self, or_true, true_or, or_false, false_or, if_true, if_false, Int.toNat_natCast, w_ite, Nat.add_zero, reduceCtorEq, ne_eq]
  exact h0
theorem sp_272 {h i : Nat} (hS : HistS S R h) (hi : i < 12) : XC d 272 [.ref h, .int (w i)] (mk S I L R G) Q ↔ Q (.inl (some (.ref (h + 2 + 3 * i)))) (mk S I L R G) := by
  obtain ⟨g0, g1, g2⟩ := hS
  obtain ⟨r1, hP⟩ := g2 i hi
  generalize h + 2 + 3 * i = o at *
  simp (disch := omega) only [q_272_0, q_272_1, q_272_4, q_272_5, q_272_6, q_272_9, q_272_10, q_272_13, q_272_14, q_272_17, q_272_18, q_272_19, q_272_22, q_272_23, q_272_23o, q_272_e, va_rf_s, bz_0, bz_1, bz_ok, bb_ok, Nat.add_assoc, w_lt, w_add, w_sub, w_mul, w_div, em_def, w_eq, w_inT, ↓ilt_t, ↓ilt_f, ↓ieq_t, ↓ieq_f, ntT, w_b, w_ix, kx_v, kx_n, kl_n, kl_i, kl_r, kl_o, inA_i, inA_s, inA_b, inA_z, inA_l, inA_0, inA_4, inA_5, inA_6, inA_7, inA_8, inA_9, inA_10, al_0, al_1, al_2, al_4, al_5, al_98, bsP_2, bsP_3, wr_same, wr_wr, wr_ne, up_same, up_ne, Nat.reduceAdd, Int.reduceAdd, Int.reduceSub, Int.reduceMul, Int.reduceLT, Int.reduceLE, Int.reduceEq, Int.reduceNeg, Int.reduceToNat, Nat.reduceLT, Nat.reduceLeDiff, Nat.reduceEqDiff, ↓reduceIte, true_and, and_true, not_true_eq_false, not_false_eq_true, eq_self, or_true, true_or, or_false, false_or, if_true, if_false, Int.toNat_natCast, w_ite, Nat.add_zero, reduceCtorEq, ne_eq, g0, g1, r1, hP.1]
theorem sp_23 {h b nx sz : Nat} (hS : HistS S R h) (h1 : I h 1 = w nx) (hn : nx < 12) (h2 : I h 2 = w sz) (hs : sz ≤ 12) (hB : BookS S b) (hd : b + 3 ≤ h ∨ h + 38 ≤ b) (hr : ∀ i, i < 60 → rOk S (R (b + 1) i))
    (hQ : ∀ (I' : MI) (R' : MR), bkCopy I I' R R' (h + 2 + 3 * nx) b → Q (.inl none) (mk S (wr I' h (up (up (I' h) 1 (w ((nx + 1) % 12 : Nat))) 2 (w (min (sz + 1) 12 : Nat)))) L R' G)) :
    XC (d + 1) 23 [.ref h, .ref b] (mk S I L R G) Q := by
  have s272 := fun {d : Nat} {Q : XO → Hp → Prop} => sp_272 (d := d) (Q := Q) (I := I) (L := L) (G := G) hS hn
  obtain ⟨g0, g1, g2⟩ := hS
  obtain ⟨r1, hP⟩ := g2 nx hn
  generalize ho : h + 2 + 3 * nx = o at *
  simp (disch := omega) only [q_23_0, q_23_1, q_23_2, q_23_5, q_23_8, q_23_8o, q_23_9, q_23_9o, q_23_10o, q_23_10, q_23_13, q_23_13o, q_23_14, q_23_15, q_23_18, q_23_19, q_23_20, q_23_23, q_23_24, q_23_25, q_23_27, q_23_30, q_23_31, q_23_34, q_23_35, q_23_36, q_23_39, q_23_40, q_23_43, q_23_44, q_23_45, q_23_48, q_23_49, q_23_50, q_23_52, q_23_55, q_23_58, q_23_e, va_rf_s, bz_0, bz_1, bz_ok, bb_ok, Nat.add_assoc, w_lt, w_add, w_sub, w_mul, w_div, em_def, w_eq, w_inT, ↓ilt_t, ↓ilt_f, ↓ieq_t, ↓ieq_f, ntT, w_b, w_ix, kx_v, kx_n, kl_n, kl_i, kl_r, kl_o, inA_i, inA_s, inA_b, inA_z, inA_l, inA_0, inA_4, inA_5, inA_6, inA_7, inA_8, inA_9, inA_10, al_0, al_1, al_2, al_4, al_5, al_98, bsP_2, bsP_3, wr_same, wr_wr, wr_ne, up_same, up_ne, Nat.reduceAdd, Int.reduceAdd, Int.reduceSub, Int.reduceMul, Int.reduceLT, Int.reduceLE, Int.reduceEq, Int.reduceNeg, Int.reduceToNat, Nat.reduceLT, Nat.reduceLeDiff, Nat.reduceEqDiff, ↓reduceIte, true_and, and_true, not_true_eq_false, not_false_eq_true, eq_self, or_true, true_or, or_false, false_or, if_true, if_false, Int.toNat_natCast, w_ite, Nat.add_zero, reduceCtorEq, ne_eq, g0, g1, h1, s272, hP.1]
  refine sp_7 hP hB (by omega) hr (fun I' R' hc => ?_)
  have c1 : I' h 1 = w nx := by rw [hc.1 h (by omega) (by omega)]; exact h1
  have c2 : I' h 2 = w sz := by rw [hc.1 h (by omega) (by omega)]; exact h2
  have := hQ I' R' hc
  have e2 : (w ((min (sz + 1) 12 : Nat) : Int)) = w (if 12 < (sz : Int) + 1 then 12 else (sz : Int) + 1) := by congr 1; split <;> omega
  rw [e2] at this
  by_cases c : nx + 1 < 12
  · rw [Nat.mod_eq_of_lt c] at this
    simp only [Int.natCast_add, Int.natCast_one] at this
    simp (disch := omega) only [q_23_0, q_23_1, q_23_2, q_23_5, q_23_8, q_23_8o, q_23_9, q_23_9o, q_23_10o, q_23_10, q_23_13, q_23_13o, q_23_14, q_23_15, q_23_18, q_23_19, q_23_20, q_23_23, q_23_24, q_23_25, q_23_27, q_23_30, q_23_31, q_23_34, q_23_35, q_23_36, q_23_39, q_23_40, q_23_43, q_23_44, q_23_45, q_23_48, q_23_49, q_23_50, q_23_52, q_23_55, q_23_58, q_23_e, va_rf_s, bz_0, bz_1, bz_ok, bb_ok, Nat.add_assoc, w_lt, w_add, w_sub, w_mul, w_div, em_def, w_eq, w_inT, ↓ilt_t, ↓ilt_f, ↓ieq_t, ↓ieq_f, ntT, w_b, w_ix, kx_v, kx_n, kl_n, kl_i, kl_r, kl_o, inA_i, inA_s, inA_b, inA_z, inA_l, inA_0, inA_4, inA_5, inA_6, inA_7, inA_8, inA_9, inA_10, al_0, al_1, al_2, al_4, al_5, al_98, bsP_2, bsP_3, wr_same, wr_wr, wr_ne, up_same, up_ne, Nat.reduceAdd, Int.reduceAdd, Int.reduceSub, Int.reduceMul, Int.reduceLT, Int.reduceLE, Int.reduceEq, Int.reduceNeg, Int.reduceToNat, Nat.reduceLT, Nat.reduceLeDiff, Nat.reduceEqDiff, ↓reduceIte, true_and, and_true, not_true_eq_false, not_false_eq_true, eq_self, or_true, true_or, or_false, false_or, if_true, if_false, Int.toNat_natCast, w_ite, Nat.add_zero, reduceCtorEq, ne_eq, g0, c1, c2]
    exact this
  · have : nx = 11 := by omega
    subst this
    simp (disch := omega) only [q_23_0, q_23_1, q_23_2, q_23_5, q_23_8, q_23_8o, q_23_9, q_23_9o, q_23_10o, q_23_10, q_23_13, q_23_13o, q_23_14, q_23_15, q_23_18, q_23_19, q_23_20, q_23_23, q_23_24, q_23_25, q_23_27, q_23_30, q_23_31, q_23_34, q_23_35, q_23_36, q_23_39, q_23_40, q_23_43, q_23_44, q_23_45, q_23_48, q_23_49, q_23_50, q_23_52, q_23_55, q_23_58, q_23_e, va_rf_s, bz_0, bz_1, bz_ok, bb_ok, Nat.add_assoc, w_lt, w_add, w_sub, w_mul, w_div, em_def, w_eq, w_inT, ↓ilt_t, ↓ilt_f, ↓ieq_t, ↓ieq_f, ntT, w_b, w_ix, kx_v, kx_n, kl_n, kl_i, kl_r, kl_o, inA_i, inA_s, inA_b, inA_z, inA_l, inA_0, inA_4, inA_5, inA_6, inA_7, inA_8, inA_9, inA_10, al_0, al_1, al_2, al_4, al_5, al_98, bsP_2, bsP_3, wr_same, wr_wr, wr_ne, up_same, up_ne, Nat.reduceAdd, Int.reduceAdd, Int.reduceSub, Int.reduceMul, Int.reduceLT, Int.reduceLE, Int.reduceEq, Int.reduceNeg, Int.reduceToNat, Nat.reduceLT, Nat.reduceLeDiff, Nat.reduceEqDiff, ↓reduceIte, true_and, and_true, not_true_eq_false, not_false_eq_true, eq_self, or_true, true_or, or_false, false_or, if_true, if_false, Int.toNat_natCast, w_ite, Nat.add_zero, reduceCtorEq, ne_eq, g0, c1, c2]
    exact this
theorem sp_24 {h b nx sz : Nat} (hS : HistS S R h) (h1 : I h 1 = w nx) (hn : nx < 12) (h2 : I h 2 = w sz) (hs : sz ≤ 12) (hs0 : 0 < sz) (hB : BookS S b) (hd : b + 3 ≤ h ∨ h + 38 ≤ b) (hr : ∀ j, j < 12 → ∀ i, i < 60 → rOk S (R (h + 2 + 3 * j + 1) i))
    (hQ : ∀ (I' : MI) (R' : MR), bkCopy (wr I h (up (up (I h) 1 (w ((nx + 11) % 12 : Nat))) 2 (w (sz - 1 : Nat)))) I' R R' b (h + 2 + 3 * ((nx + 11) % 12)) → Q (.inl none) (mk S I' L R' G)) :
    XC (d + 1) 24 [.ref h, .ref b] (mk S I L R G) Q := by
  have hlt : (nx + 11) % 12 < 12 := Nat.mod_lt _ (by decide)
  have s272 := fun {d : Nat} {Q : XO → Hp → Prop} {I : MI} => sp_272 (d := d) (Q := Q) (I := I) (L := L) (G := G) hS hlt
  obtain ⟨g0, g1, g2⟩ := hS
  obtain ⟨r1, hP⟩ := g2 _ hlt
  have e2 : ((sz - 1 : Nat) : Int) = sz + -1 := by omega
  generalize hn' : (nx + 11) % 12 = n' at *
  generalize ho : h + 2 + 3 * n' = o at *
  have e5 : (0 < nx ∧ (n' : Int) = nx - 1) ∨ (nx = 0 ∧ n' = 11) := by omega
  rw [e2] at hQ
  have e6 : (sz : Int) - 1 = sz + -1 := rfl
  have fin : XX (d + 1) 24 36 [some (.ref h), some (.ref b), none] [] (mk S (wr I h (up (up (I h) 1 (w n')) 2 (w (sz + -1)))) L R G) Q := by
    simp (disch := omega) only [q_24_0, q_24_1, q_24_2, q_24_5, q_24_8, q_24_9, q_24_12, q_24_13, q_24_14, q_24_17, q_24_19, q_24_22, q_24_23, q_24_24, q_24_27, q_24_28, q_24_29, q_24_30, q_24_33, q_24_36, q_24_37, q_24_38, q_24_41, q_24_44, q_24_44o, q_24_45, q_24_45o, q_24_46o, q_24_46, q_24_49, q_24_50, q_24_50o, q_24_51, q_24_51o, q_24_54, q_24_e, va_rf_s, bz_0, bz_1, bz_ok, bb_ok, Nat.add_assoc, w_lt, w_add, w_sub, w_mul, w_div, em_def, w_eq, w_inT, ↓ilt_t, ↓ilt_f, ↓ieq_t, ↓ieq_f, ntT, w_b, w_ix, kx_v, kx_n, kl_n, kl_i, kl_r, kl_o, inA_i, inA_s, inA_b, inA_z, inA_l, inA_0, inA_4, inA_5, inA_6, inA_7, inA_8, inA_9, inA_10, al_0, al_1, al_2, al_4, al_5, al_98, bsP_2, bsP_3, wr_same, wr_wr, wr_ne, up_same, up_ne, Nat.reduceAdd, Int.reduceAdd, Int.reduceSub, Int.reduceMul, Int.reduceLT, Int.reduceLE, Int.reduceEq, Int.reduceNeg, Int.reduceToNat, Nat.reduceLT, Nat.reduceLeDiff, Nat.reduceEqDiff, ↓reduceIte, true_and, and_true, not_true_eq_false, not_false_eq_true, eq_self, or_true, true_or, or_false, false_or, if_true, if_false, Int.toNat_natCast, w_ite, Nat.add_zero, reduceCtorEq, ne_eq, g0, g1, s272, hP.1, hB.1]
    refine sp_7 hB hP (by omega) (fun i hi => by rw [← ho]; exact hr n' hlt i hi) (fun I' R' hc => ?_)
    simp (disch := omega) only [q_24_0, q_24_1, q_24_2, q_24_5, q_24_8, q_24_9, q_24_12, q_24_13, q_24_14, q_24_17, q_24_19, q_24_22, q_24_23, q_24_24, q_24_27, q_24_28, q_24_29, q_24_30, q_24_33, q_24_36, q_24_37, q_24_38, q_24_41, q_24_44, q_24_44o, q_24_45, q_24_45o, q_24_46o, q_24_46, q_24_49, q_24_50, q_24_50o, q_24_51, q_24_51o, q_24_54, q_24_e, va_rf_s, bz_0, bz_1, bz_ok, bb_ok, Nat.add_assoc, w_lt, w_add, w_sub, w_mul, w_div, em_def, w_eq, w_inT, ↓ilt_t, ↓ilt_f, ↓ieq_t, ↓ieq_f, ntT, w_b, w_ix, kx_v, kx_n, kl_n, kl_i, kl_r, kl_o, inA_i, inA_s, inA_b, inA_z, inA_l, inA_0, inA_4, inA_5, inA_6, inA_7, inA_8, inA_9, inA_10, al_0, al_1, al_2, al_4, al_5, al_98, bsP_2, bsP_3, wr_same, wr_wr, wr_ne, up_same, up_ne, Nat.reduceAdd, Int.reduceAdd, Int.reduceSub, Int.reduceMul, Int.reduceLT, Int.reduceLE, Int.reduceEq, Int.reduceNeg, Int.reduceToNat, Nat.reduceLT, Nat.reduceLeDiff, Nat.reduceEqDiff, ↓reduceIte, true_and, and_true, not_true_eq_false, not_false_eq_true, eq_self, or_true, true_or, or_false, false_or, if_true, if_false, Int.toNat_natCast, w_ite, Nat.add_zero, reduceCtorEq, ne_eq]
    exact hQ I' R' hc
  have e7 : (if (sz : Int) - 1 < 0 then 0 else (sz : Int) - 1) = sz + -1 := by rw [if_neg (by omega)]; rfl
  rcases e5 with ⟨c, e5⟩ | ⟨c, e5⟩
  · simp (disch := omega) only [q_24_0, q_24_1, q_24_2, q_24_5, q_24_8, q_24_9, q_24_12, q_24_13, q_24_14, q_24_17, q_24_19, q_24_22, q_24_23, q_24_24, q_24_27, q_24_28, q_24_29, q_24_30, q_24_33, q_24_37, q_24_38, q_24_41, q_24_44, q_24_44o, q_24_45, q_24_45o, q_24_46o, q_24_46, q_24_49, q_24_50, q_24_50o, q_24_51, q_24_51o, q_24_54, q_24_e, va_rf_s, bz_0, bz_1, bz_ok, bb_ok, Nat.add_assoc, w_lt, w_add, w_sub, w_mul, w_div, em_def, w_eq, w_inT, ↓ilt_t, ↓ilt_f, ↓ieq_t, ↓ieq_f, ntT, w_b, w_ix, kx_v, kx_n, kl_n, kl_i, kl_r, kl_o, inA_i, inA_s, inA_b, inA_z, inA_l, inA_0, inA_4, inA_5, inA_6, inA_7, inA_8, inA_9, inA_10, al_0, al_1, al_2, al_4, al_5, al_98, bsP_2, bsP_3, wr_same, wr_wr, wr_ne, up_same, up_ne, Nat.reduceAdd, Int.reduceAdd, Int.reduceSub, Int.reduceMul, Int.reduceLT, Int.reduceLE, Int.reduceEq, Int.reduceNeg, Int.reduceToNat, Nat.reduceLT, Nat.reduceLeDiff, Nat.reduceEqDiff, ↓reduceIte, true_and, and_true, not_true_eq_false, not_false_eq_true, eq_self, or_true, true_or, or_false, false_or, if_true, if_false, Int.toNat_natCast, w_ite, Nat.add_zero, reduceCtorEq, ne_eq, g0, h1, h2, ← e5]
    first | exact fin | (rw [e7]; exact fin)
  · subst c
    simp (disch := omega) only [q_24_0, q_24_1, q_24_2, q_24_5, q_24_8, q_24_9, q_24_12, q_24_13, q_24_14, q_24_17, q_24_19, q_24_22, q_24_23, q_24_24, q_24_27, q_24_28, q_24_29, q_24_30, q_24_33, q_24_37, q_24_38, q_24_41, q_24_44, q_24_44o, q_24_45, q_24_45o, q_24_46o, q_24_46, q_24_49, q_24_50, q_24_50o, q_24_51, q_24_51o, q_24_54, q_24_e, va_rf_s, bz_0, bz_1, bz_ok, bb_ok, Nat.add_assoc, w_lt, w_add, w_sub, w_mul, w_div, em_def, w_eq, w_inT, ↓ilt_t, ↓ilt_f, ↓ieq_t, ↓ieq_f, ntT, w_b, w_ix, kx_v, kx_n, kl_n, kl_i, kl_r, kl_o, inA_i, inA_s, inA_b, inA_z, inA_l, inA_0, inA_4, inA_5, inA_6, inA_7, inA_8, inA_9, inA_10, al_0, al_1, al_2, al_4, al_5, al_98, bsP_2, bsP_3, wr_same, wr_wr, wr_ne, up_same, up_ne, Nat.reduceAdd, Int.reduceAdd, Int.reduceSub, Int.reduceMul, Int.reduceLT, Int.reduceLE, Int.reduceEq, Int.reduceNeg, Int.reduceToNat, Nat.reduceLT, Nat.reduceLeDiff, Nat.reduceEqDiff, ↓reduceIte, true_and, and_true, not_true_eq_false, not_false_eq_true, eq_self, or_true, true_or, or_false, false_or, if_true, if_false, Int.toNat_natCast, w_ite, Nat.add_zero, reduceCtorEq, ne_eq, g0, h1, h2]
    subst e5
    first | exact fin | (rw [e7]; exact fin)
theorem sp_10 {q k wh : Nat} {l : List C4} (hC : CauS S q) (h4 : gi I q 4 = l.length) (hl : l.length ≤ 31) (hk : k < l.length) (hr : crow I q k = l.getD k c0) (hw : wh ≤ 3) (hQ : Q (.inl (some (.int (w (if wh = 0 then (l.getD k c0).1 else if wh = 1 then (l.getD k c0).2.1 else if wh = 2 then (l.getD k c0).2.2.1 else (l.getD k c0).2.2.2))))) (mk S I L R G)) : XC d 10 [.ref q, .int (w k), .int (w wh)] (mk S I L R G) Q := by
  obtain ⟨g0, g1, g2, g3, g5⟩ := hC
  have e4 : I q 4 = w l.length := by rw [← h4]; exact (w_self _).symm
  rw [← hr] at hQ
  simp (disch := omega) only [q_10_0, q_10_1, q_10_4, q_10_5, q_10_6, q_10_9, q_10_12, q_10_13, q_10_15, q_10_18, q_10_19, q_10_20, q_10_21, q_10_48, q_10_49, q_10_52, q_10_53, q_10_54, q_10_55, q_10_56, q_10_59, q_10_60, q_10_61, q_10_62, q_10_63, q_10_66, q_10_67, q_10_68, q_10_69, q_10_70, q_10_73, q_10_74, q_10_75, q_10_e, va_rf_s, bz_0, bz_1, bz_ok, bb_ok, Nat.add_assoc, w_lt, w_add, w_sub, w_mul, w_div, em_def, w_eq, w_inT, ↓ilt_t, ↓ilt_f, ↓ieq_t, ↓ieq_f, ntT, w_b, w_ix, kx_v, kx_n, kl_n, kl_i, kl_r, kl_o, inA_i, inA_s, inA_b, inA_z, inA_l, inA_0, inA_4, inA_5, inA_6, inA_7, inA_8, inA_9, inA_10, al_0, al_1, al_2, al_4, al_5, al_98, bsP_2, bsP_3, wr_same, wr_wr, wr_ne, up_same, up_ne, Nat.reduceAdd, Int.reduceAdd, Int.reduceSub, Int.reduceMul, Int.reduceLT, Int.reduceLE, Int.reduceEq, Int.reduceNeg, Int.reduceToNat, Nat.reduceLT, Nat.reduceLeDiff, Nat.reduceEqDiff, ↓reduceIte, true_and, and_true, not_true_eq_false, not_false_eq_true, eq_self, or_true, true_or, or_false, false_or, if_true, if_false, Int.toNat_natCast, w_ite, Nat.add_zero, reduceCtorEq, ne_eq, g0, e4, w_toInt]
  have hc : wh = 0 ∨ wh = 1 ∨ wh = 2 ∨ wh = 3 := by omega
  have gg : ∀ a j, w (gi I a j) = I a j := fun a j => w_self _
  rcases hc with e | e | e | e
  · subst e
    rw [show swT [48, 55, 62] 69 0 ((0 : Nat) : Int) = 48 from rfl]
    simp (disch := omega) only [q_10_0, q_10_1, q_10_4, q_10_5, q_10_6, q_10_9, q_10_12, q_10_13, q_10_15, q_10_18, q_10_19, q_10_20, q_10_21, q_10_48, q_10_49, q_10_52, q_10_53, q_10_54, q_10_55, q_10_56, q_10_59, q_10_60, q_10_61, q_10_62, q_10_63, q_10_66, q_10_67, q_10_68, q_10_69, q_10_70, q_10_73, q_10_74, q_10_75, q_10_e, va_rf_s, bz_0, bz_1, bz_ok, bb_ok, Nat.add_assoc, w_lt, w_add, w_sub, w_mul, w_div, em_def, w_eq, w_inT, ↓ilt_t, ↓ilt_f, ↓ieq_t, ↓ieq_f, ntT, w_b, w_ix, kx_v, kx_n, kl_n, kl_i, kl_r, kl_o, inA_i, inA_s, inA_b, inA_z, inA_l, inA_0, inA_4, inA_5, inA_6, inA_7, inA_8, inA_9, inA_10, al_0, al_1, al_2, al_4, al_5, al_98, bsP_2, bsP_3, wr_same, wr_wr, wr_ne, up_same, up_ne, Nat.reduceAdd, Int.reduceAdd, Int.reduceSub, Int.reduceMul, Int.reduceLT, Int.reduceLE, Int.reduceEq, Int.reduceNeg, Int.reduceToNat, Nat.reduceLT, Nat.reduceLeDiff, Nat.reduceEqDiff, ↓reduceIte, true_and, and_true, not_true_eq_false, not_false_eq_true, eq_self, or_true, true_or, or_false, false_or, if_true, if_false, Int.toNat_natCast, w_ite, Nat.add_zero, reduceCtorEq, ne_eq, g0, g1]
    rw [← gg]; exact hQ
  · subst e
    rw [show swT [48, 55, 62] 69 0 ((1 : Nat) : Int) = 55 from rfl]
    simp (disch := omega) only [q_10_0, q_10_1, q_10_4, q_10_5, q_10_6, q_10_9, q_10_12, q_10_13, q_10_15, q_10_18, q_10_19, q_10_20, q_10_21, q_10_48, q_10_49, q_10_52, q_10_53, q_10_54, q_10_55, q_10_56, q_10_59, q_10_60, q_10_61, q_10_62, q_10_63, q_10_66, q_10_67, q_10_68, q_10_69, q_10_70, q_10_73, q_10_74, q_10_75, q_10_e, va_rf_s, bz_0, bz_1, bz_ok, bb_ok, Nat.add_assoc, w_lt, w_add, w_sub, w_mul, w_div, em_def, w_eq, w_inT, ↓ilt_t, ↓ilt_f, ↓ieq_t, ↓ieq_f, ntT, w_b, w_ix, kx_v, kx_n, kl_n, kl_i, kl_r, kl_o, inA_i, inA_s, inA_b, inA_z, inA_l, inA_0, inA_4, inA_5, inA_6, inA_7, inA_8, inA_9, inA_10, al_0, al_1, al_2, al_4, al_5, al_98, bsP_2, bsP_3, wr_same, wr_wr, wr_ne, up_same, up_ne, Nat.reduceAdd, Int.reduceAdd, Int.reduceSub, Int.reduceMul, Int.reduceLT, Int.reduceLE, Int.reduceEq, Int.reduceNeg, Int.reduceToNat, Nat.reduceLT, Nat.reduceLeDiff, Nat.reduceEqDiff, ↓reduceIte, true_and, and_true, not_true_eq_false, not_false_eq_true, eq_self, or_true, true_or, or_false, false_or, if_true, if_false, Int.toNat_natCast, w_ite, Nat.add_zero, reduceCtorEq, ne_eq, g0, g2]
    rw [← gg]; exact hQ
  · subst e
    rw [show swT [48, 55, 62] 69 0 ((2 : Nat) : Int) = 62 from rfl]
    simp (disch := omega) only [q_10_0, q_10_1, q_10_4, q_10_5, q_10_6, q_10_9, q_10_12, q_10_13, q_10_15, q_10_18, q_10_19, q_10_20, q_10_21, q_10_48, q_10_49, q_10_52, q_10_53, q_10_54, q_10_55, q_10_56, q_10_59, q_10_60, q_10_61, q_10_62, q_10_63, q_10_66, q_10_67, q_10_68, q_10_69, q_10_70, q_10_73, q_10_74, q_10_75, q_10_e, va_rf_s, bz_0, bz_1, bz_ok, bb_ok, Nat.add_assoc, w_lt, w_add, w_sub, w_mul, w_div, em_def, w_eq, w_inT, ↓ilt_t, ↓ilt_f, ↓ieq_t, ↓ieq_f, ntT, w_b, w_ix, kx_v, kx_n, kl_n, kl_i, kl_r, kl_o, inA_i, inA_s, inA_b, inA_z, inA_l, inA_0, inA_4, inA_5, inA_6, inA_7, inA_8, inA_9, inA_10, al_0, al_1, al_2, al_4, al_5, al_98, bsP_2, bsP_3, wr_same, wr_wr, wr_ne, up_same, up_ne, Nat.reduceAdd, Int.reduceAdd, Int.reduceSub, Int.reduceMul, Int.reduceLT, Int.reduceLE, Int.reduceEq, Int.reduceNeg, Int.reduceToNat, Nat.reduceLT, Nat.reduceLeDiff, Nat.reduceEqDiff, ↓reduceIte, true_and, and_true, not_true_eq_false, not_false_eq_true, eq_self, or_true, true_or, or_false, false_or, if_true, if_false, Int.toNat_natCast, w_ite, Nat.add_zero, reduceCtorEq, ne_eq, g0, g3]
    rw [← gg]; exact hQ
  · subst e
    rw [show swT [48, 55, 62] 69 0 ((3 : Nat) : Int) = 69 from rfl]
    simp (disch := omega) only [q_10_0, q_10_1, q_10_4, q_10_5, q_10_6, q_10_9, q_10_12, q_10_13, q_10_15, q_10_18, q_10_19, q_10_20, q_10_21, q_10_48, q_10_49, q_10_52, q_10_53, q_10_54, q_10_55, q_10_56, q_10_59, q_10_60, q_10_61, q_10_62, q_10_63, q_10_66, q_10_67, q_10_68, q_10_69, q_10_70, q_10_73, q_10_74, q_10_75, q_10_e, va_rf_s, bz_0, bz_1, bz_ok, bb_ok, Nat.add_assoc, w_lt, w_add, w_sub, w_mul, w_div, em_def, w_eq, w_inT, ↓ilt_t, ↓ilt_f, ↓ieq_t, ↓ieq_f, ntT, w_b, w_ix, kx_v, kx_n, kl_n, kl_i, kl_r, kl_o, inA_i, inA_s, inA_b, inA_z, inA_l, inA_0, inA_4, inA_5, inA_6, inA_7, inA_8, inA_9, inA_10, al_0, al_1, al_2, al_4, al_5, al_98, bsP_2, bsP_3, wr_same, wr_wr, wr_ne, up_same, up_ne, Nat.reduceAdd, Int.reduceAdd, Int.reduceSub, Int.reduceMul, Int.reduceLT, Int.reduceLE, Int.reduceEq, Int.reduceNeg, Int.reduceToNat, Nat.reduceLT, Nat.reduceLeDiff, Nat.reduceEqDiff, ↓reduceIte, true_and, and_true, not_true_eq_false, not_false_eq_true, eq_self, or_true, true_or, or_false, false_or, if_true, if_false, Int.toNat_natCast, w_ite, Nat.add_zero, reduceCtorEq, ne_eq, g0, g5]
    rw [← gg]; exact hQ
end

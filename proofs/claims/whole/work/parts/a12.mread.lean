/-! the model's calls: same, read, heard -/
theorem w_sb {b : Int} (h0 : 0 ≤ b) (h1 : b < 256) : (w b).toInt8.toInt32 = w (sb b) := by
  rw [w_bm, bm_8]
  unfold sb
  split <;> split <;> (congr 1; omega)
/-- what looking up leaves -/
def LuF (I I' : MI) (m : Nat) : Prop := (∀ x, x ≠ m → I' x = I x) ∧ (∀ j, (j < 33 ∨ 35 < j) → I' m j = I m j)
theorem fstz_app {l : List Nat} {n : Nat} : fstz (l ++ [n]) = if l = [] then (n : Int) else fstz l := by
  cases l with
  | nil => rfl
  | cons x l => rw [if_neg (by simp)]; rfl
theorem lstz_app {l : List Nat} {n : Nat} : lstz (l ++ [n]) = n := by
  unfold lstz; rw [List.getLast?_concat]
section
variable {d : Nat} {Q : XO → Hp → Prop} {S : SH} {I : MI} {L : ML} {R : MR} {G : MG} {A : Hp}
variable {m : Nat} {s : St} {two : Bool}
/-- a language's sayings go aside, for a call -/
theorem MS.aside (h : MS S I R G m s) {l : Int} (cl : inL l) (hQ : ∀ I' : MI, AsF I I' m → MS S I' R G m s → MFr I L I' L m → LdA I' m (rlz s l) s.2.1.1 → AdA I' m (rlz s l) s.2.1.1 → Q (.inl none) (mk S I' L R G)) : XC (d + 64) 197 [.ref m, .int (w l)] (mk S I L R G) Q := by
  have h9 := h.2.2.2.2.2.2.2.2
  obtain ⟨h13, p1, p2⟩ := h.2.2.2.2.2.1
  have el : ((l.toNat : Nat) : Int) = l := by omega
  have fin : ∀ I' : MI, AsF I I' m → I' m 22 = w (l.toNat : Nat) → LdA I' m (rlz s l) s.2.1.1 → AdA I' m (rlz s l) s.2.1.1 → Q (.inl none) (mk S I' L R G) := fun I' hF e22 hA hB => by
    refine hQ I' hF (h.sc (fun a a1 a2 => hF.1 a a1 (by omega)) (fun j j1 j2 => hF.2 j (by omega)) (Or.inr ⟨l.toNat, by omega, e22, hA⟩)) (fun a ha => ⟨hF.1 a (by omega) (by omega), rfl⟩) hA hB
  rcases h9 with h22 | ⟨l', hl', h22, hA⟩
  · have := sp_197 (d := d) (Q := Q) (L := L) (G := G) (l := l.toNat) (z0 := -1) h.1 (by omega) (h.rs cl) h13 p2 h22 (by decide) (fun e => by omega) fin
    rw [el] at this
    exact this
  · have := sp_197 (d := d) (Q := Q) (L := L) (G := G) (l := l.toNat) (z0 := l') h.1 (by omega) (h.rs cl) h13 p2 h22 (by omega) (fun e => by
      have : l' = l.toNat := by omega
      subst this
      exact hA) fin
    rw [el] at this
    exact this
theorem sp_229 (h : MS S I R G m s) (hQ : MK S I L R G m Q two (.inl (vSame (s.2.1.2 0) (s.2.1.2 1) s.2.1.1), s)) : XC (d + 70) 229 [.ref m] (mk S I L R G) Q := by
  have hm := h.1.1
  obtain ⟨I1, e, h1, h0, hF⟩ := h.st (L := L)
  simp (disch := omega) only [q_229_0, q_229_1, q_229_2, q_229_6, q_229_7, q_229_10, q_229_11, q_229_12, q_229_15, q_229_16, q_229_17, q_229_18, q_229_20, q_229_21, q_229_24, q_229_27, q_229_28, q_229_29, q_229_32, q_229_33, q_229_34, q_229_35, q_229_38, q_229_39, q_229_40, q_229_43, q_229_46, q_229_47, q_229_50, q_229_51, q_229_52, q_229_53, q_229_56, q_229_59, q_229_60, q_229_e, va_rf_s, bz_0, bz_1, bz_ok, bb_ok, Nat.add_assoc, w_lt, w_add, w_sub, w_mul, w_div, em_def, w_eq, w_inT, ↓ilt_t, ↓ilt_f, ↓ieq_t, ↓ieq_f, ntT, w_b, w_ix, kx_v, kx_n, kl_n, kl_i, kl_r, kl_o, inA_i, inA_s, inA_b, inA_z, inA_l, inA_0, inA_4, inA_5, inA_6, inA_7, inA_8, inA_9, inA_10, al_0, al_1, al_2, al_4, al_5, al_98, bsP_2, bsP_3, wr_same, wr_wr, wr_ne, up_same, up_ne, Nat.reduceAdd, Int.reduceAdd, Int.reduceSub, Int.reduceMul, Int.reduceLT, Int.reduceLE, Int.reduceEq, Int.reduceNeg, Int.reduceToNat, Nat.reduceLT, Nat.reduceLeDiff, Nat.reduceEqDiff, ↓reduceIte, true_and, and_true, not_true_eq_false, not_false_eq_true, eq_self, or_true, true_or, or_false, false_or, if_true, if_false, Int.toNat_natCast, w_ite, Nat.add_zero, reduceCtorEq, ne_eq, hm]
  rw [e, q_229_5]
  simp (disch := omega) only [q_229_0, q_229_1, q_229_2, q_229_6, q_229_7, q_229_10, q_229_11, q_229_12, q_229_15, q_229_16, q_229_17, q_229_18, q_229_20, q_229_21, q_229_24, q_229_27, q_229_28, q_229_29, q_229_32, q_229_33, q_229_34, q_229_35, q_229_38, q_229_39, q_229_40, q_229_43, q_229_46, q_229_47, q_229_50, q_229_51, q_229_52, q_229_53, q_229_56, q_229_59, q_229_60, q_229_e, va_rf_s, bz_0, bz_1, bz_ok, bb_ok, Nat.add_assoc, w_lt, w_add, w_sub, w_mul, w_div, em_def, w_eq, w_inT, ↓ilt_t, ↓ilt_f, ↓ieq_t, ↓ieq_f, ntT, w_b, w_ix, kx_v, kx_n, kl_n, kl_i, kl_r, kl_o, inA_i, inA_s, inA_b, inA_z, inA_l, inA_0, inA_4, inA_5, inA_6, inA_7, inA_8, inA_9, inA_10, al_0, al_1, al_2, al_4, al_5, al_98, bsP_2, bsP_3, wr_same, wr_wr, wr_ne, up_same, up_ne, Nat.reduceAdd, Int.reduceAdd, Int.reduceSub, Int.reduceMul, Int.reduceLT, Int.reduceLE, Int.reduceEq, Int.reduceNeg, Int.reduceToNat, Nat.reduceLT, Nat.reduceLeDiff, Nat.reduceEqDiff, ↓reduceIte, true_and, and_true, not_true_eq_false, not_false_eq_true, eq_self, or_true, true_or, or_false, false_or, if_true, if_false, Int.toNat_natCast, w_ite, Nat.add_zero, reduceCtorEq, ne_eq, hm]
  refine h1.aside (l := 0) (by omega) (fun I2 hF2 h2 hM2 hA2 hB2 => ?_)
  simp (disch := omega) only [q_229_0, q_229_1, q_229_2, q_229_6, q_229_7, q_229_10, q_229_11, q_229_12, q_229_15, q_229_16, q_229_17, q_229_18, q_229_20, q_229_21, q_229_24, q_229_27, q_229_28, q_229_29, q_229_32, q_229_33, q_229_34, q_229_35, q_229_38, q_229_39, q_229_40, q_229_43, q_229_46, q_229_47, q_229_50, q_229_51, q_229_52, q_229_53, q_229_56, q_229_59, q_229_60, q_229_e, va_rf_s, bz_0, bz_1, bz_ok, bb_ok, Nat.add_assoc, w_lt, w_add, w_sub, w_mul, w_div, em_def, w_eq, w_inT, ↓ilt_t, ↓ilt_f, ↓ieq_t, ↓ieq_f, ntT, w_b, w_ix, kx_v, kx_n, kl_n, kl_i, kl_r, kl_o, inA_i, inA_s, inA_b, inA_z, inA_l, inA_0, inA_4, inA_5, inA_6, inA_7, inA_8, inA_9, inA_10, al_0, al_1, al_2, al_4, al_5, al_98, bsP_2, bsP_3, wr_same, wr_wr, wr_ne, up_same, up_ne, Nat.reduceAdd, Int.reduceAdd, Int.reduceSub, Int.reduceMul, Int.reduceLT, Int.reduceLE, Int.reduceEq, Int.reduceNeg, Int.reduceToNat, Nat.reduceLT, Nat.reduceLeDiff, Nat.reduceEqDiff, ↓reduceIte, true_and, and_true, not_true_eq_false, not_false_eq_true, eq_self, or_true, true_or, or_false, false_or, if_true, if_false, Int.toNat_natCast, w_ite, Nat.add_zero, reduceCtorEq, ne_eq, hm]
  refine h2.lays (l := 1) (by omega) (fun I3 hF3 h3 hM3 e22 hA3 => ?_)
  have hQ' := hQ.ans h3 (by rw [hF3.2 0 (by omega), hF2.2 0 (by omega)]; exact h0) ((hF.trans hM2).trans hM3)
  have hB3 : AdA I3 m (s.2.1.2 0) s.2.1.1 := AdA.keep hB2 (hF3.1 _ (by omega) (by omega)) (hF3.1 _ (by omega) (by omega)) (hF3.1 _ (by omega) (by omega))
  have hA3 : LdA I3 m (s.2.1.2 1) s.2.1.1 := hA3
  obtain ⟨e13, p1, p2⟩ := h3.2.2.2.2.2.1
  have hr0 := (h.2.2.2.2.2.2.1 0 (by decide)).ok
  have hr1 := (h.2.2.2.2.2.2.1 1 (by decide)).ok
  have k3 := h.1.2.2.2.2.2.2.2.2.1.2.2.1
  unfold vSame at hQ'
  have lp : ∀ (j n : Nat), n + j = s.2.1.1 + 1 → XX (d + 70) 229 19 [some (.ref m), some (.int (w (cnt (fun n => (T (s.2.1.2 0) n).isSome && decide (T (s.2.1.2 0) n = T (s.2.1.2 1) n)) n))), some (.int (w n))] [] (mk S I3 L R G) Q := by
    intro j
    induction j with
    | zero =>
      intro n hn
      have : n = s.2.1.1 + 1 := by omega
      subst this
      rw [q_229_19]
      simp (disch := omega) only [q_229_0, q_229_1, q_229_2, q_229_6, q_229_7, q_229_10, q_229_11, q_229_12, q_229_15, q_229_16, q_229_17, q_229_18, q_229_20, q_229_21, q_229_24, q_229_27, q_229_28, q_229_29, q_229_32, q_229_33, q_229_34, q_229_35, q_229_38, q_229_39, q_229_40, q_229_43, q_229_46, q_229_47, q_229_50, q_229_51, q_229_52, q_229_53, q_229_56, q_229_59, q_229_60, q_229_e, va_rf_s, bz_0, bz_1, bz_ok, bb_ok, Nat.add_assoc, w_lt, w_add, w_sub, w_mul, w_div, em_def, w_eq, w_inT, ↓ilt_t, ↓ilt_f, ↓ieq_t, ↓ieq_f, ntT, w_b, w_ix, kx_v, kx_n, kl_n, kl_i, kl_r, kl_o, inA_i, inA_s, inA_b, inA_z, inA_l, inA_0, inA_4, inA_5, inA_6, inA_7, inA_8, inA_9, inA_10, al_0, al_1, al_2, al_4, al_5, al_98, bsP_2, bsP_3, wr_same, wr_wr, wr_ne, up_same, up_ne, Nat.reduceAdd, Int.reduceAdd, Int.reduceSub, Int.reduceMul, Int.reduceLT, Int.reduceLE, Int.reduceEq, Int.reduceNeg, Int.reduceToNat, Nat.reduceLT, Nat.reduceLeDiff, Nat.reduceEqDiff, ↓reduceIte, true_and, and_true, not_true_eq_false, not_false_eq_true, eq_self, or_true, true_or, or_false, false_or, if_true, if_false, Int.toNat_natCast, w_ite, Nat.add_zero, reduceCtorEq, ne_eq, hm, e13]
      exact hQ'
    | succ j ih =>
      intro n hn
      have hcn := cnt_le (fun n => (T (s.2.1.2 0) n).isSome && decide (T (s.2.1.2 0) n = T (s.2.1.2 1) n)) n
      have s198 := fun {d : Nat} {Q : XO → Hp → Prop} => sp_198 (d := d) (Q := Q) (L := L) (G := G) h.1 hr1 hr0 hA3 hB3 p2 (show n ≤ s.2.1.1 by omega)
      have i1 := ih (n + 1) (by omega)
      have hst : ∀ b, ((T (s.2.1.2 0) (n : Int)).isSome && decide (T (s.2.1.2 0) (n : Int) = T (s.2.1.2 1) (n : Int))) = b → cnt (fun n : Nat => (T (s.2.1.2 0) n).isSome && decide (T (s.2.1.2 0) n = T (s.2.1.2 1) n)) (n + 1) = cnt (fun n : Nat => (T (s.2.1.2 0) n).isSome && decide (T (s.2.1.2 0) n = T (s.2.1.2 1) n)) n + (if b = true then 1 else 0) := fun b hb => cnt_s hb
      have eln := hA3.len (show n ≤ s.2.1.1 by omega)
      rw [q_229_19]
      cases hT : T (s.2.1.2 1) (n : Int) with
      | none =>
        rw [hT] at eln
        have hb : ((T (s.2.1.2 0) (n : Int)).isSome && decide (T (s.2.1.2 0) (n : Int) = T (s.2.1.2 1) (n : Int))) = false := by
          rw [hT]
          cases T (s.2.1.2 0) (n : Int) <;> rfl
        rw [hst _ hb] at i1
        simp only [Int.natCast_add, Int.natCast_one, Bool.false_eq_true, if_false, Nat.add_zero] at i1
        simp (disch := omega) only [q_229_0, q_229_1, q_229_2, q_229_6, q_229_7, q_229_10, q_229_11, q_229_12, q_229_15, q_229_16, q_229_17, q_229_18, q_229_20, q_229_21, q_229_24, q_229_27, q_229_28, q_229_29, q_229_32, q_229_33, q_229_34, q_229_35, q_229_38, q_229_39, q_229_40, q_229_43, q_229_46, q_229_47, q_229_50, q_229_51, q_229_52, q_229_53, q_229_56, q_229_59, q_229_60, q_229_e, va_rf_s, bz_0, bz_1, bz_ok, bb_ok, Nat.add_assoc, w_lt, w_add, w_sub, w_mul, w_div, em_def, w_eq, w_inT, ↓ilt_t, ↓ilt_f, ↓ieq_t, ↓ieq_f, ntT, w_b, w_ix, kx_v, kx_n, kl_n, kl_i, kl_r, kl_o, inA_i, inA_s, inA_b, inA_z, inA_l, inA_0, inA_4, inA_5, inA_6, inA_7, inA_8, inA_9, inA_10, al_0, al_1, al_2, al_4, al_5, al_98, bsP_2, bsP_3, wr_same, wr_wr, wr_ne, up_same, up_ne, Nat.reduceAdd, Int.reduceAdd, Int.reduceSub, Int.reduceMul, Int.reduceLT, Int.reduceLE, Int.reduceEq, Int.reduceNeg, Int.reduceToNat, Nat.reduceLT, Nat.reduceLeDiff, Nat.reduceEqDiff, ↓reduceIte, true_and, and_true, not_true_eq_false, not_false_eq_true, eq_self, or_true, true_or, or_false, false_or, if_true, if_false, Int.toNat_natCast, w_ite, Nat.add_zero, reduceCtorEq, ne_eq, hm, e13, k3, eln, Int.add_zero]
        exact i1
      | some t =>
        have ht := (T_ok hr1 hT).2
        rw [hT] at eln s198
        by_cases c : T (s.2.1.2 0) (n : Int) = some t
        · have hb : ((T (s.2.1.2 0) (n : Int)).isSome && decide (T (s.2.1.2 0) (n : Int) = T (s.2.1.2 1) (n : Int))) = true := by
            rw [hT, c]; simp
          rw [hst _ hb] at i1
          rw [decide_eq_true c.symm] at s198
          simp only [Int.natCast_add, Int.natCast_one, if_true] at i1
          simp (disch := omega) only [q_229_0, q_229_1, q_229_2, q_229_6, q_229_7, q_229_10, q_229_11, q_229_12, q_229_15, q_229_16, q_229_17, q_229_18, q_229_20, q_229_21, q_229_24, q_229_27, q_229_28, q_229_29, q_229_32, q_229_33, q_229_34, q_229_35, q_229_38, q_229_39, q_229_40, q_229_43, q_229_46, q_229_47, q_229_50, q_229_51, q_229_52, q_229_53, q_229_56, q_229_59, q_229_60, q_229_e, va_rf_s, bz_0, bz_1, bz_ok, bb_ok, Nat.add_assoc, w_lt, w_add, w_sub, w_mul, w_div, em_def, w_eq, w_inT, ↓ilt_t, ↓ilt_f, ↓ieq_t, ↓ieq_f, ntT, w_b, w_ix, kx_v, kx_n, kl_n, kl_i, kl_r, kl_o, inA_i, inA_s, inA_b, inA_z, inA_l, inA_0, inA_4, inA_5, inA_6, inA_7, inA_8, inA_9, inA_10, al_0, al_1, al_2, al_4, al_5, al_98, bsP_2, bsP_3, wr_same, wr_wr, wr_ne, up_same, up_ne, Nat.reduceAdd, Int.reduceAdd, Int.reduceSub, Int.reduceMul, Int.reduceLT, Int.reduceLE, Int.reduceEq, Int.reduceNeg, Int.reduceToNat, Nat.reduceLT, Nat.reduceLeDiff, Nat.reduceEqDiff, ↓reduceIte, true_and, and_true, not_true_eq_false, not_false_eq_true, eq_self, or_true, true_or, or_false, false_or, if_true, if_false, Int.toNat_natCast, w_ite, Nat.add_zero, reduceCtorEq, ne_eq, hm, e13, k3, eln, s198]
          exact i1
        · have hb : ((T (s.2.1.2 0) (n : Int)).isSome && decide (T (s.2.1.2 0) (n : Int) = T (s.2.1.2 1) (n : Int))) = false := by
            rw [hT, decide_eq_false c, Bool.and_false]
          rw [hst _ hb] at i1
          rw [decide_eq_false (fun h => c h.symm)] at s198
          simp only [Int.natCast_add, Int.natCast_one, Bool.false_eq_true, if_false, Nat.add_zero] at i1
          simp (disch := omega) only [q_229_0, q_229_1, q_229_2, q_229_6, q_229_7, q_229_10, q_229_11, q_229_12, q_229_15, q_229_16, q_229_17, q_229_18, q_229_20, q_229_21, q_229_24, q_229_27, q_229_28, q_229_29, q_229_32, q_229_33, q_229_34, q_229_35, q_229_38, q_229_39, q_229_40, q_229_43, q_229_46, q_229_47, q_229_50, q_229_51, q_229_52, q_229_53, q_229_56, q_229_59, q_229_60, q_229_e, va_rf_s, bz_0, bz_1, bz_ok, bb_ok, Nat.add_assoc, w_lt, w_add, w_sub, w_mul, w_div, em_def, w_eq, w_inT, ↓ilt_t, ↓ilt_f, ↓ieq_t, ↓ieq_f, ntT, w_b, w_ix, kx_v, kx_n, kl_n, kl_i, kl_r, kl_o, inA_i, inA_s, inA_b, inA_z, inA_l, inA_0, inA_4, inA_5, inA_6, inA_7, inA_8, inA_9, inA_10, al_0, al_1, al_2, al_4, al_5, al_98, bsP_2, bsP_3, wr_same, wr_wr, wr_ne, up_same, up_ne, Nat.reduceAdd, Int.reduceAdd, Int.reduceSub, Int.reduceMul, Int.reduceLT, Int.reduceLE, Int.reduceEq, Int.reduceNeg, Int.reduceToNat, Nat.reduceLT, Nat.reduceLeDiff, Nat.reduceEqDiff, ↓reduceIte, true_and, and_true, not_true_eq_false, not_false_eq_true, eq_self, or_true, true_or, or_false, false_or, if_true, if_false, Int.toNat_natCast, w_ite, Nat.add_zero, reduceCtorEq, ne_eq, hm, e13, k3, eln, s198, Int.add_zero]
          exact i1
  simp (disch := omega) only [q_229_0, q_229_1, q_229_2, q_229_6, q_229_7, q_229_10, q_229_11, q_229_12, q_229_15, q_229_16, q_229_17, q_229_18, q_229_20, q_229_21, q_229_24, q_229_27, q_229_28, q_229_29, q_229_32, q_229_33, q_229_34, q_229_35, q_229_38, q_229_39, q_229_40, q_229_43, q_229_46, q_229_47, q_229_50, q_229_51, q_229_52, q_229_53, q_229_56, q_229_59, q_229_60, q_229_e, va_rf_s, bz_0, bz_1, bz_ok, bb_ok, Nat.add_assoc, w_lt, w_add, w_sub, w_mul, w_div, em_def, w_eq, w_inT, ↓ilt_t, ↓ilt_f, ↓ieq_t, ↓ieq_f, ntT, w_b, w_ix, kx_v, kx_n, kl_n, kl_i, kl_r, kl_o, inA_i, inA_s, inA_b, inA_z, inA_l, inA_0, inA_4, inA_5, inA_6, inA_7, inA_8, inA_9, inA_10, al_0, al_1, al_2, al_4, al_5, al_98, bsP_2, bsP_3, wr_same, wr_wr, wr_ne, up_same, up_ne, Nat.reduceAdd, Int.reduceAdd, Int.reduceSub, Int.reduceMul, Int.reduceLT, Int.reduceLE, Int.reduceEq, Int.reduceNeg, Int.reduceToNat, Nat.reduceLT, Nat.reduceLeDiff, Nat.reduceEqDiff, ↓reduceIte, true_and, and_true, not_true_eq_false, not_false_eq_true, eq_self, or_true, true_or, or_false, false_or, if_true, if_false, Int.toNat_natCast, w_ite, Nat.add_zero, reduceCtorEq, ne_eq]
  exact lp (s.2.1.1 + 1) 0 (by omega)
/-- whether a number is said as some bytes of a row -/
theorem sp_218 {rs : List Rl} {h n a p n1 : Nat} {t : List Int} (hL : MLay S R m) (hr : rsOk rs) (hA : LdA I m rs h) (hh : h ≤ 1000) (hn : n ≤ h) (ha : S a = some (.inl (2, n1))) (hn1 : n1 < 2147483648) (hp : p + t.length ≤ n1) (hT : Txt (I a) p t) (htb : ∀ b ∈ t, -128 ≤ b ∧ b < 128) (ht : t.length ≤ 1000) : XC d 218 [.ref m, .int (w n), .ref a, .int (w p), .int (w t.length)] (mk S I L R G) Q ↔ Q (.inl (some (.int (bz (decide (T rs n = some t)))))) (mk S I L R G) := by
  obtain ⟨k1, k2, k3, -⟩ := hL.2.2.2.2.2.2.2.2.1
  have hm := hL.1
  have eln := hA.len hn
  obtain ⟨a1, -, a3⟩ := hA n hn
  cases hU : T rs (n : Int) with
  | none =>
    rw [hU] at eln
    rw [decide_eq_false (by simp)]
    simp (disch := omega) only [q_218_0, q_218_1, q_218_4, q_218_5, q_218_6, q_218_8, q_218_11, q_218_12, q_218_13, q_218_14, q_218_18, q_218_20, q_218_23, q_218_24, q_218_27, q_218_28, q_218_31, q_218_32, q_218_33, q_218_35, q_218_36, q_218_37, q_218_38, q_218_39, q_218_41, q_218_42, q_218_43, q_218_46, q_218_47, q_218_48, q_218_51, q_218_54, q_218_55, q_218_e, va_rf_s, bz_0, bz_1, bz_ok, bb_ok, Nat.add_assoc, w_lt, w_add, w_sub, w_mul, w_div, em_def, w_eq, w_inT, ↓ilt_t, ↓ilt_f, ↓ieq_t, ↓ieq_f, ntT, w_b, w_ix, kx_v, kx_n, kl_n, kl_i, kl_r, kl_o, inA_i, inA_s, inA_b, inA_z, inA_l, inA_0, inA_4, inA_5, inA_6, inA_7, inA_8, inA_9, inA_10, al_0, al_1, al_2, al_4, al_5, al_98, bsP_2, bsP_3, wr_same, wr_wr, wr_ne, up_same, up_ne, Nat.reduceAdd, Int.reduceAdd, Int.reduceSub, Int.reduceMul, Int.reduceLT, Int.reduceLE, Int.reduceEq, Int.reduceNeg, Int.reduceToNat, Nat.reduceLT, Nat.reduceLeDiff, Nat.reduceEqDiff, ↓reduceIte, true_and, and_true, not_true_eq_false, not_false_eq_true, eq_self, or_true, true_or, or_false, false_or, if_true, if_false, Int.toNat_natCast, w_ite, Nat.add_zero, reduceCtorEq, ne_eq, hm, k3, eln]
    exact Iff.rfl
  | some u =>
    have huo := T_ok hr hU
    rw [hU] at eln
    obtain ⟨-, a5⟩ := a3 u hU
    have hba := bgn_le hr (n + 1)
    rw [bgn_s hU] at hba
    have hinj : (some u = some t) ↔ u = t := Option.some_inj
    simp only [hinj]
    by_cases cl : u.length = t.length
    · have lp : ∀ (j c : Nat), c + j = t.length → (XX d 218 16 [some (.ref m), some (.int (w n)), some (.ref a), some (.int (w p)), some (.int (w t.length)), some (.int (w c))] [] (mk S I L R G) Q ↔ Q (.inl (some (.int (bz (decide (u.drop c = t.drop c)))))) (mk S I L R G)) := by
        intro j
        induction j with
        | zero =>
          intro c hc
          rw [List.drop_eq_nil_of_le (by omega), List.drop_eq_nil_of_le (by omega), decide_eq_true rfl, q_218_16]
          simp (disch := omega) only [q_218_0, q_218_1, q_218_4, q_218_5, q_218_6, q_218_8, q_218_11, q_218_12, q_218_13, q_218_14, q_218_18, q_218_20, q_218_23, q_218_24, q_218_27, q_218_28, q_218_31, q_218_32, q_218_33, q_218_35, q_218_36, q_218_37, q_218_38, q_218_39, q_218_41, q_218_42, q_218_43, q_218_46, q_218_47, q_218_48, q_218_51, q_218_54, q_218_55, q_218_e, va_rf_s, bz_0, bz_1, bz_ok, bb_ok, Nat.add_assoc, w_lt, w_add, w_sub, w_mul, w_div, em_def, w_eq, w_inT, ↓ilt_t, ↓ilt_f, ↓ieq_t, ↓ieq_f, ntT, w_b, w_ix, kx_v, kx_n, kl_n, kl_i, kl_r, kl_o, inA_i, inA_s, inA_b, inA_z, inA_l, inA_0, inA_4, inA_5, inA_6, inA_7, inA_8, inA_9, inA_10, al_0, al_1, al_2, al_4, al_5, al_98, bsP_2, bsP_3, wr_same, wr_wr, wr_ne, up_same, up_ne, Nat.reduceAdd, Int.reduceAdd, Int.reduceSub, Int.reduceMul, Int.reduceLT, Int.reduceLE, Int.reduceEq, Int.reduceNeg, Int.reduceToNat, Nat.reduceLT, Nat.reduceLeDiff, Nat.reduceEqDiff, ↓reduceIte, true_and, and_true, not_true_eq_false, not_false_eq_true, eq_self, or_true, true_or, or_false, false_or, if_true, if_false, Int.toNat_natCast, w_ite, Nat.add_zero, reduceCtorEq, ne_eq]
          exact Iff.rfl
        | succ j ih =>
          intro c hc
          have h1 : c < u.length := by omega
          have h2 : c < t.length := by omega
          have ih' := ih (c + 1) (by omega)
          simp only [Int.natCast_add, Int.natCast_one] at ih'
          have ea := a5 c h1
          have eb := hT c h2
          have g1 := huo.1.get h1
          have g2 : -128 ≤ t.getD c 0 ∧ t.getD c 0 < 128 := by
            rw [List.getD_eq_getElem?_getD, List.getElem?_eq_getElem h2]; exact htb _ (List.getElem_mem h2)
          have e6 : ((bgn rs n : Int) + c).toNat = bgn rs n + c := by omega
          have e7 : ((p : Int) + c).toNat = p + c := by omega
          rw [drop_cons h1, drop_cons h2, q_218_16]
          by_cases c0 : u.getD c 0 = t.getD c 0
          · have : (u.getD c 0 :: u.drop (c + 1) = t.getD c 0 :: t.drop (c + 1)) ↔ u.drop (c + 1) = t.drop (c + 1) := by
              rw [c0]; exact ⟨fun h => (List.cons.inj h).2, fun h => by rw [h]⟩
            simp only [this]
            simp (disch := omega) only [q_218_0, q_218_1, q_218_4, q_218_5, q_218_6, q_218_8, q_218_11, q_218_12, q_218_13, q_218_14, q_218_18, q_218_20, q_218_23, q_218_24, q_218_27, q_218_28, q_218_31, q_218_32, q_218_33, q_218_35, q_218_36, q_218_37, q_218_38, q_218_39, q_218_41, q_218_42, q_218_43, q_218_46, q_218_47, q_218_48, q_218_51, q_218_54, q_218_55, q_218_e, va_rf_s, bz_0, bz_1, bz_ok, bb_ok, Nat.add_assoc, w_lt, w_add, w_sub, w_mul, w_div, em_def, w_eq, w_inT, ↓ilt_t, ↓ilt_f, ↓ieq_t, ↓ieq_f, ntT, w_b, w_ix, kx_v, kx_n, kl_n, kl_i, kl_r, kl_o, inA_i, inA_s, inA_b, inA_z, inA_l, inA_0, inA_4, inA_5, inA_6, inA_7, inA_8, inA_9, inA_10, al_0, al_1, al_2, al_4, al_5, al_98, bsP_2, bsP_3, wr_same, wr_wr, wr_ne, up_same, up_ne, Nat.reduceAdd, Int.reduceAdd, Int.reduceSub, Int.reduceMul, Int.reduceLT, Int.reduceLE, Int.reduceEq, Int.reduceNeg, Int.reduceToNat, Nat.reduceLT, Nat.reduceLeDiff, Nat.reduceEqDiff, ↓reduceIte, true_and, and_true, not_true_eq_false, not_false_eq_true, eq_self, or_true, true_or, or_false, false_or, if_true, if_false, Int.toNat_natCast, w_ite, Nat.add_zero, reduceCtorEq, ne_eq, hm, ha, k1, k2, a1, e6, e7, ea, eb]
            exact ih'
          · rw [decide_eq_false (fun h => c0 (List.cons.inj h).1)]
            simp (disch := omega) only [q_218_0, q_218_1, q_218_4, q_218_5, q_218_6, q_218_8, q_218_11, q_218_12, q_218_13, q_218_14, q_218_18, q_218_20, q_218_23, q_218_24, q_218_27, q_218_28, q_218_31, q_218_32, q_218_33, q_218_35, q_218_36, q_218_37, q_218_38, q_218_39, q_218_41, q_218_42, q_218_43, q_218_46, q_218_47, q_218_48, q_218_51, q_218_54, q_218_55, q_218_e, va_rf_s, bz_0, bz_1, bz_ok, bb_ok, Nat.add_assoc, w_lt, w_add, w_sub, w_mul, w_div, em_def, w_eq, w_inT, ↓ilt_t, ↓ilt_f, ↓ieq_t, ↓ieq_f, ntT, w_b, w_ix, kx_v, kx_n, kl_n, kl_i, kl_r, kl_o, inA_i, inA_s, inA_b, inA_z, inA_l, inA_0, inA_4, inA_5, inA_6, inA_7, inA_8, inA_9, inA_10, al_0, al_1, al_2, al_4, al_5, al_98, bsP_2, bsP_3, wr_same, wr_wr, wr_ne, up_same, up_ne, Nat.reduceAdd, Int.reduceAdd, Int.reduceSub, Int.reduceMul, Int.reduceLT, Int.reduceLE, Int.reduceEq, Int.reduceNeg, Int.reduceToNat, Nat.reduceLT, Nat.reduceLeDiff, Nat.reduceEqDiff, ↓reduceIte, true_and, and_true, not_true_eq_false, not_false_eq_true, eq_self, or_true, true_or, or_false, false_or, if_true, if_false, Int.toNat_natCast, w_ite, Nat.add_zero, reduceCtorEq, ne_eq, hm, ha, k1, k2, a1, e6, e7, ea, eb]
            exact Iff.rfl
      have := lp t.length 0 (by omega)
      simp only [List.drop_zero, Int.natCast_zero] at this
      simp (disch := omega) only [q_218_0, q_218_1, q_218_4, q_218_5, q_218_6, q_218_8, q_218_11, q_218_12, q_218_13, q_218_14, q_218_18, q_218_20, q_218_23, q_218_24, q_218_27, q_218_28, q_218_31, q_218_32, q_218_33, q_218_35, q_218_36, q_218_37, q_218_38, q_218_39, q_218_41, q_218_42, q_218_43, q_218_46, q_218_47, q_218_48, q_218_51, q_218_54, q_218_55, q_218_e, va_rf_s, bz_0, bz_1, bz_ok, bb_ok, Nat.add_assoc, w_lt, w_add, w_sub, w_mul, w_div, em_def, w_eq, w_inT, ↓ilt_t, ↓ilt_f, ↓ieq_t, ↓ieq_f, ntT, w_b, w_ix, kx_v, kx_n, kl_n, kl_i, kl_r, kl_o, inA_i, inA_s, inA_b, inA_z, inA_l, inA_0, inA_4, inA_5, inA_6, inA_7, inA_8, inA_9, inA_10, al_0, al_1, al_2, al_4, al_5, al_98, bsP_2, bsP_3, wr_same, wr_wr, wr_ne, up_same, up_ne, Nat.reduceAdd, Int.reduceAdd, Int.reduceSub, Int.reduceMul, Int.reduceLT, Int.reduceLE, Int.reduceEq, Int.reduceNeg, Int.reduceToNat, Nat.reduceLT, Nat.reduceLeDiff, Nat.reduceEqDiff, ↓reduceIte, true_and, and_true, not_true_eq_false, not_false_eq_true, eq_self, or_true, true_or, or_false, false_or, if_true, if_false, Int.toNat_natCast, w_ite, Nat.add_zero, reduceCtorEq, ne_eq, hm, k3, eln]
      exact this
    · rw [decide_eq_false (fun h => cl (by rw [h]))]
      simp (disch := omega) only [q_218_0, q_218_1, q_218_4, q_218_5, q_218_6, q_218_8, q_218_11, q_218_12, q_218_13, q_218_14, q_218_18, q_218_20, q_218_23, q_218_24, q_218_27, q_218_28, q_218_31, q_218_32, q_218_33, q_218_35, q_218_36, q_218_37, q_218_38, q_218_39, q_218_41, q_218_42, q_218_43, q_218_46, q_218_47, q_218_48, q_218_51, q_218_54, q_218_55, q_218_e, va_rf_s, bz_0, bz_1, bz_ok, bb_ok, Nat.add_assoc, w_lt, w_add, w_sub, w_mul, w_div, em_def, w_eq, w_inT, ↓ilt_t, ↓ilt_f, ↓ieq_t, ↓ieq_f, ntT, w_b, w_ix, kx_v, kx_n, kl_n, kl_i, kl_r, kl_o, inA_i, inA_s, inA_b, inA_z, inA_l, inA_0, inA_4, inA_5, inA_6, inA_7, inA_8, inA_9, inA_10, al_0, al_1, al_2, al_4, al_5, al_98, bsP_2, bsP_3, wr_same, wr_wr, wr_ne, up_same, up_ne, Nat.reduceAdd, Int.reduceAdd, Int.reduceSub, Int.reduceMul, Int.reduceLT, Int.reduceLE, Int.reduceEq, Int.reduceNeg, Int.reduceToNat, Nat.reduceLT, Nat.reduceLeDiff, Nat.reduceEqDiff, ↓reduceIte, true_and, and_true, not_true_eq_false, not_false_eq_true, eq_self, or_true, true_or, or_false, false_or, if_true, if_false, Int.toNat_natCast, w_ite, Nat.add_zero, reduceCtorEq, ne_eq, hm, k3, eln]
      exact Iff.rfl
/-- those that are said so -/
theorem sp_219 {rs : List Rl} {h a p n1 : Nat} {t : List Int} (hL : MLay S R m) (hr : rsOk rs) (hA : LdA I m rs h) (h13 : I m 13 = w h) (hh : h ≤ 1000) (ham : a ≠ m) (ha : S a = some (.inl (2, n1))) (hn1 : n1 < 2147483648) (hp : p + t.length ≤ n1) (hT : Txt (I a) p t) (htb : ∀ b ∈ t, -128 ≤ b ∧ b < 128) (ht : t.length ≤ 1000)
    (hQ : ∀ I' : MI, LuF I I' m → I' m 33 = w (rd rs h t).length → I' m 34 = w (fstz (rd rs h t)) → I' m 35 = w (lstz (rd rs h t)) → Q (.inl none) (mk S I' L R G)) : XC (d + 1) 219 [.ref m, .ref a, .int (w p), .int (w t.length)] (mk S I L R G) Q := by
  have hm := hL.1
  have lp : ∀ (j n : Nat) (I1 : MI), n + j = h + 1 → LuF I I1 m → I1 m 33 = w ((List.range n).filter (fun n : Nat => decide (T rs n = some t))).length → I1 m 34 = w (fstz ((List.range n).filter (fun n : Nat => decide (T rs n = some t)))) → I1 m 35 = w (lstz ((List.range n).filter (fun n : Nat => decide (T rs n = some t)))) → XX (d + 1) 219 18 [some (.ref m), some (.ref a), some (.int (w p)), some (.int (w t.length)), some (.int (w n))] [] (mk S I1 L R G) Q := by
    intro j
    induction j with
    | zero =>
      intro n I1 hn hF h33 h34 h35
      have : n = h + 1 := by omega
      subst this
      have e13 : I1 m 13 = w h := by rw [hF.2 13 (by omega)]; exact h13
      rw [q_219_18]
      simp (disch := omega) only [q_219_0, q_219_1, q_219_2, q_219_5, q_219_6, q_219_7, q_219_10, q_219_11, q_219_12, q_219_15, q_219_16, q_219_20, q_219_21, q_219_24, q_219_27, q_219_28, q_219_30, q_219_31, q_219_32, q_219_33, q_219_36, q_219_39, q_219_42, q_219_43, q_219_44, q_219_47, q_219_50, q_219_52, q_219_55, q_219_56, q_219_59, q_219_62, q_219_63, q_219_65, q_219_68, q_219_69, q_219_70, q_219_73, q_219_74, q_219_75, q_219_78, q_219_81, q_219_84, q_219_e, va_rf_s, bz_0, bz_1, bz_ok, bb_ok, Nat.add_assoc, w_lt, w_add, w_sub, w_mul, w_div, em_def, w_eq, w_inT, ↓ilt_t, ↓ilt_f, ↓ieq_t, ↓ieq_f, ntT, w_b, w_ix, kx_v, kx_n, kl_n, kl_i, kl_r, kl_o, inA_i, inA_s, inA_b, inA_z, inA_l, inA_0, inA_4, inA_5, inA_6, inA_7, inA_8, inA_9, inA_10, al_0, al_1, al_2, al_4, al_5, al_98, bsP_2, bsP_3, wr_same, wr_wr, wr_ne, up_same, up_ne, Nat.reduceAdd, Int.reduceAdd, Int.reduceSub, Int.reduceMul, Int.reduceLT, Int.reduceLE, Int.reduceEq, Int.reduceNeg, Int.reduceToNat, Nat.reduceLT, Nat.reduceLeDiff, Nat.reduceEqDiff, ↓reduceIte, true_and, and_true, not_true_eq_false, not_false_eq_true, eq_self, or_true, true_or, or_false, false_or, if_true, if_false, Int.toNat_natCast, w_ite, Nat.add_zero, reduceCtorEq, ne_eq, hm, e13]
      exact hQ I1 hF h33 h34 h35
    | succ j ih =>
      intro n I1 hn hF h33 h34 h35
      have e13 : I1 m 13 = w h := by rw [hF.2 13 (by omega)]; exact h13
      have hA1 : LdA I1 m rs h := hA.keep (hF.1 _ (by omega)) (hF.1 _ (by omega)) (hF.1 _ (by omega))
      have s218 := fun {d : Nat} {Q : XO → Hp → Prop} => sp_218 (d := d) (Q := Q) (L := L) (G := G) hL hr hA1 hh (show n ≤ h by omega) ha hn1 hp (by rw [hF.1 a ham]; exact hT) htb ht
      have ih' := fun I2 => ih (n + 1) I2 (by omega)
      simp only [List.range_succ, List.filter_append] at ih'
      have hfl : ((List.range n).filter (fun n : Nat => decide (T rs n = some t))).length ≤ n := by
        have := List.length_filter_le (fun n : Nat => decide (T rs n = some t)) (List.range n)
        rw [List.length_range] at this; exact this
      rw [q_219_18]
      by_cases c : T rs (n : Int) = some t
      · rw [decide_eq_true c] at s218
        rw [List.filter_cons_of_pos (by rw [decide_eq_true_iff]; exact c), List.filter_nil] at ih'
        generalize (List.range n).filter (fun n : Nat => decide (T rs n = some t)) = Ln at h33 h34 h35 ih' hfl
        rw [fstz_app, lstz_app, List.length_append, List.length_cons, List.length_nil] at ih'
        simp only [Int.natCast_add, Int.natCast_one] at ih'
        by_cases c0 : Ln = []
        · subst c0
          rw [if_pos rfl] at ih'
          rw [List.length_nil] at h33 ih'
          simp (disch := omega) only [q_219_0, q_219_1, q_219_2, q_219_5, q_219_6, q_219_7, q_219_10, q_219_11, q_219_12, q_219_15, q_219_16, q_219_20, q_219_21, q_219_24, q_219_27, q_219_28, q_219_30, q_219_31, q_219_32, q_219_33, q_219_36, q_219_39, q_219_42, q_219_43, q_219_44, q_219_47, q_219_50, q_219_52, q_219_55, q_219_56, q_219_59, q_219_62, q_219_63, q_219_65, q_219_68, q_219_69, q_219_70, q_219_73, q_219_74, q_219_75, q_219_78, q_219_81, q_219_84, q_219_e, va_rf_s, bz_0, bz_1, bz_ok, bb_ok, Nat.add_assoc, w_lt, w_add, w_sub, w_mul, w_div, em_def, w_eq, w_inT, ↓ilt_t, ↓ilt_f, ↓ieq_t, ↓ieq_f, ntT, w_b, w_ix, kx_v, kx_n, kl_n, kl_i, kl_r, kl_o, inA_i, inA_s, inA_b, inA_z, inA_l, inA_0, inA_4, inA_5, inA_6, inA_7, inA_8, inA_9, inA_10, al_0, al_1, al_2, al_4, al_5, al_98, bsP_2, bsP_3, wr_same, wr_wr, wr_ne, up_same, up_ne, Nat.reduceAdd, Int.reduceAdd, Int.reduceSub, Int.reduceMul, Int.reduceLT, Int.reduceLE, Int.reduceEq, Int.reduceNeg, Int.reduceToNat, Nat.reduceLT, Nat.reduceLeDiff, Nat.reduceEqDiff, ↓reduceIte, true_and, and_true, not_true_eq_false, not_false_eq_true, eq_self, or_true, true_or, or_false, false_or, if_true, if_false, Int.toNat_natCast, w_ite, Nat.add_zero, reduceCtorEq, ne_eq, hm, e13, s218, h33, h34, Int.natCast_zero]
          refine ih' _ (?_) ?_ ?_ ?_
          · refine ⟨fun x hx => ?_, fun j hj => ?_⟩
            · rw [wr_ne hx]; exact hF.1 x hx
            · rw [wr_same, up_ne (by omega), up_ne (by omega), up_ne (by omega)]; exact hF.2 j hj
          · rw [wr_same, up_same]; rfl
          · rw [wr_same, up_ne (by decide), up_ne (by decide), up_same]
          · rw [wr_same, up_ne (by decide), up_same]
        · rw [if_neg c0] at ih'
          have hpos : 0 < Ln.length := List.length_pos_iff.mpr c0
          simp (disch := omega) only [q_219_0, q_219_1, q_219_2, q_219_5, q_219_6, q_219_7, q_219_10, q_219_11, q_219_12, q_219_15, q_219_16, q_219_20, q_219_21, q_219_24, q_219_27, q_219_28, q_219_30, q_219_31, q_219_32, q_219_33, q_219_36, q_219_39, q_219_42, q_219_43, q_219_44, q_219_47, q_219_50, q_219_52, q_219_55, q_219_56, q_219_59, q_219_62, q_219_63, q_219_65, q_219_68, q_219_69, q_219_70, q_219_73, q_219_74, q_219_75, q_219_78, q_219_81, q_219_84, q_219_e, va_rf_s, bz_0, bz_1, bz_ok, bb_ok, Nat.add_assoc, w_lt, w_add, w_sub, w_mul, w_div, em_def, w_eq, w_inT, ↓ilt_t, ↓ilt_f, ↓ieq_t, ↓ieq_f, ntT, w_b, w_ix, kx_v, kx_n, kl_n, kl_i, kl_r, kl_o, inA_i, inA_s, inA_b, inA_z, inA_l, inA_0, inA_4, inA_5, inA_6, inA_7, inA_8, inA_9, inA_10, al_0, al_1, al_2, al_4, al_5, al_98, bsP_2, bsP_3, wr_same, wr_wr, wr_ne, up_same, up_ne, Nat.reduceAdd, Int.reduceAdd, Int.reduceSub, Int.reduceMul, Int.reduceLT, Int.reduceLE, Int.reduceEq, Int.reduceNeg, Int.reduceToNat, Nat.reduceLT, Nat.reduceLeDiff, Nat.reduceEqDiff, ↓reduceIte, true_and, and_true, not_true_eq_false, not_false_eq_true, eq_self, or_true, true_or, or_false, false_or, if_true, if_false, Int.toNat_natCast, w_ite, Nat.add_zero, reduceCtorEq, ne_eq, hm, e13, s218, h33, h34]
          refine ih' _ (?_) ?_ ?_ ?_
          · refine ⟨fun x hx => ?_, fun j hj => ?_⟩
            · rw [wr_ne hx]; exact hF.1 x hx
            · rw [wr_same, up_ne (by omega), up_ne (by omega), up_ne (by omega)]; exact hF.2 j hj
          · rw [wr_same, up_same]; rfl
          · rw [wr_same, up_ne (by decide), up_ne (by decide), up_same]
          · rw [wr_same, up_ne (by decide), up_same]
      · rw [decide_eq_false c] at s218
        rw [List.filter_cons_of_neg (by rw [decide_eq_true_iff]; exact c), List.filter_nil, List.append_nil] at ih'
        simp only [Int.natCast_add, Int.natCast_one] at ih'
        simp (disch := omega) only [q_219_0, q_219_1, q_219_2, q_219_5, q_219_6, q_219_7, q_219_10, q_219_11, q_219_12, q_219_15, q_219_16, q_219_20, q_219_21, q_219_24, q_219_27, q_219_28, q_219_30, q_219_31, q_219_32, q_219_33, q_219_36, q_219_39, q_219_42, q_219_43, q_219_44, q_219_47, q_219_50, q_219_52, q_219_55, q_219_56, q_219_59, q_219_62, q_219_63, q_219_65, q_219_68, q_219_69, q_219_70, q_219_73, q_219_74, q_219_75, q_219_78, q_219_81, q_219_84, q_219_e, va_rf_s, bz_0, bz_1, bz_ok, bb_ok, Nat.add_assoc, w_lt, w_add, w_sub, w_mul, w_div, em_def, w_eq, w_inT, ↓ilt_t, ↓ilt_f, ↓ieq_t, ↓ieq_f, ntT, w_b, w_ix, kx_v, kx_n, kl_n, kl_i, kl_r, kl_o, inA_i, inA_s, inA_b, inA_z, inA_l, inA_0, inA_4, inA_5, inA_6, inA_7, inA_8, inA_9, inA_10, al_0, al_1, al_2, al_4, al_5, al_98, bsP_2, bsP_3, wr_same, wr_wr, wr_ne, up_same, up_ne, Nat.reduceAdd, Int.reduceAdd, Int.reduceSub, Int.reduceMul, Int.reduceLT, Int.reduceLE, Int.reduceEq, Int.reduceNeg, Int.reduceToNat, Nat.reduceLT, Nat.reduceLeDiff, Nat.reduceEqDiff, ↓reduceIte, true_and, and_true, not_true_eq_false, not_false_eq_true, eq_self, or_true, true_or, or_false, false_or, if_true, if_false, Int.toNat_natCast, w_ite, Nat.add_zero, reduceCtorEq, ne_eq, hm, e13, s218]
        exact ih' I1 hF h33 h34 h35
  simp (disch := omega) only [q_219_0, q_219_1, q_219_2, q_219_5, q_219_6, q_219_7, q_219_10, q_219_11, q_219_12, q_219_15, q_219_16, q_219_20, q_219_21, q_219_24, q_219_27, q_219_28, q_219_30, q_219_31, q_219_32, q_219_33, q_219_36, q_219_39, q_219_42, q_219_43, q_219_44, q_219_47, q_219_50, q_219_52, q_219_55, q_219_56, q_219_59, q_219_62, q_219_63, q_219_65, q_219_68, q_219_69, q_219_70, q_219_73, q_219_74, q_219_75, q_219_78, q_219_81, q_219_84, q_219_e, va_rf_s, bz_0, bz_1, bz_ok, bb_ok, Nat.add_assoc, w_lt, w_add, w_sub, w_mul, w_div, em_def, w_eq, w_inT, ↓ilt_t, ↓ilt_f, ↓ieq_t, ↓ieq_f, ntT, w_b, w_ix, kx_v, kx_n, kl_n, kl_i, kl_r, kl_o, inA_i, inA_s, inA_b, inA_z, inA_l, inA_0, inA_4, inA_5, inA_6, inA_7, inA_8, inA_9, inA_10, al_0, al_1, al_2, al_4, al_5, al_98, bsP_2, bsP_3, wr_same, wr_wr, wr_ne, up_same, up_ne, Nat.reduceAdd, Int.reduceAdd, Int.reduceSub, Int.reduceMul, Int.reduceLT, Int.reduceLE, Int.reduceEq, Int.reduceNeg, Int.reduceToNat, Nat.reduceLT, Nat.reduceLeDiff, Nat.reduceEqDiff, ↓reduceIte, true_and, and_true, not_true_eq_false, not_false_eq_true, eq_self, or_true, true_or, or_false, false_or, if_true, if_false, Int.toNat_natCast, w_ite, Nat.add_zero, reduceCtorEq, ne_eq, hm]
  refine lp (h + 1) 0 _ (by omega) ⟨fun x hx => wr_ne hx, fun j hj => ?_⟩ ?_ ?_ ?_
  · rw [wr_same, up_ne (by omega), up_ne (by omega), up_ne (by omega)]
  · rw [wr_same, up_ne (by decide), up_ne (by decide), up_same]; rfl
  · rw [wr_same, up_ne (by decide), up_same]; rfl
  · rw [wr_same, up_same]; rfl
theorem MS.lu {I' : MI} (h : MS S I R G m s) (hF : LuF I I' m) : MS S I' R G m s := by
  have hl := h.2.2.2.2.2.2.2.2
  exact h.sc (fun a a1 a2 => hF.1 a a1) (fun j j1 j2 => hF.2 j (by omega)) (hl.keep (hF.2 22 (by omega)) (hF.1 _ (by omega)) (hF.1 _ (by omega)) (hF.1 _ (by omega)))
theorem sp_228 {l n : Int} (h : MS S I R G m s) (hf : few s) (hl : B32 l) (hn : B32 n) (hQ : MK S I L R G m Q false (rHeard s l n)) : XC (d + 70) 228 [.ref m, .int (w l), .int (w n)] (mk S I L R G) Q := by
  have hm := h.1.1
  obtain ⟨I1, e, h1, h0, hF⟩ := h.st (L := L)
  have b00 := fun {d : Nat} {Q : XO → Hp → Prop} {e r : Int32} => h1.b00 (d := d) (Q := Q) (L := L) h0 (e := e) (r := r)
  have b10 := fun {d : Nat} {Q : XO → Hp → Prop} => h1.b10 (d := d) (Q := Q) (L := L) h0 (e := 1) (Or.inl rfl)
  unfold rHeard at hQ
  simp (disch := omega) only [q_228_0, q_228_1, q_228_2, q_228_6, q_228_7, q_228_10, q_228_13, q_228_14, q_228_17, q_228_18, q_228_19, q_228_20, q_228_23, q_228_26, q_228_27, q_228_28, q_228_29, q_228_30, q_228_33, q_228_34, q_228_35, q_228_36, q_228_37, q_228_38, q_228_41, q_228_44, q_228_45, q_228_46, q_228_47, q_228_48, q_228_51, q_228_52, q_228_53, q_228_56, q_228_59, q_228_60, q_228_63, q_228_e, va_rf_s, bz_0, bz_1, bz_ok, bb_ok, Nat.add_assoc, w_lt, w_add, w_sub, w_mul, w_div, em_def, w_eq, w_inT, ↓ilt_t, ↓ilt_f, ↓ieq_t, ↓ieq_f, ntT, w_b, w_ix, kx_v, kx_n, kl_n, kl_i, kl_r, kl_o, inA_i, inA_s, inA_b, inA_z, inA_l, inA_0, inA_4, inA_5, inA_6, inA_7, inA_8, inA_9, inA_10, al_0, al_1, al_2, al_4, al_5, al_98, bsP_2, bsP_3, wr_same, wr_wr, wr_ne, up_same, up_ne, Nat.reduceAdd, Int.reduceAdd, Int.reduceSub, Int.reduceMul, Int.reduceLT, Int.reduceLE, Int.reduceEq, Int.reduceNeg, Int.reduceToNat, Nat.reduceLT, Nat.reduceLeDiff, Nat.reduceEqDiff, ↓reduceIte, true_and, and_true, not_true_eq_false, not_false_eq_true, eq_self, or_true, true_or, or_false, false_or, if_true, if_false, Int.toNat_natCast, w_ite, Nat.add_zero, reduceCtorEq, ne_eq, hm]
  rw [e, q_228_5]
  by_cases cl : inL l
  · have s182 := fun {d : Nat} {Q : XO → Hp → Prop} {A : Hp} => l182 (d := d) (Q := Q) (A := A) hl cl
    rw [if_pos cl] at hQ
    simp (disch := omega) only [q_228_0, q_228_1, q_228_2, q_228_6, q_228_7, q_228_10, q_228_13, q_228_14, q_228_17, q_228_18, q_228_19, q_228_20, q_228_23, q_228_26, q_228_27, q_228_28, q_228_29, q_228_30, q_228_33, q_228_34, q_228_35, q_228_36, q_228_37, q_228_38, q_228_41, q_228_44, q_228_45, q_228_46, q_228_47, q_228_48, q_228_51, q_228_52, q_228_53, q_228_56, q_228_59, q_228_60, q_228_63, q_228_e, va_rf_s, bz_0, bz_1, bz_ok, bb_ok, Nat.add_assoc, w_lt, w_add, w_sub, w_mul, w_div, em_def, w_eq, w_inT, ↓ilt_t, ↓ilt_f, ↓ieq_t, ↓ieq_f, ntT, w_b, w_ix, kx_v, kx_n, kl_n, kl_i, kl_r, kl_o, inA_i, inA_s, inA_b, inA_z, inA_l, inA_0, inA_4, inA_5, inA_6, inA_7, inA_8, inA_9, inA_10, al_0, al_1, al_2, al_4, al_5, al_98, bsP_2, bsP_3, wr_same, wr_wr, wr_ne, up_same, up_ne, Nat.reduceAdd, Int.reduceAdd, Int.reduceSub, Int.reduceMul, Int.reduceLT, Int.reduceLE, Int.reduceEq, Int.reduceNeg, Int.reduceToNat, Nat.reduceLT, Nat.reduceLeDiff, Nat.reduceEqDiff, ↓reduceIte, true_and, and_true, not_true_eq_false, not_false_eq_true, eq_self, or_true, true_or, or_false, false_or, if_true, if_false, Int.toNat_natCast, w_ite, Nat.add_zero, reduceCtorEq, ne_eq, hm, s182, b00]
    refine h1.lays cl (fun I2 hF2 h2 hM2 e22 hA2 => ?_)
    simp (disch := omega) only [q_228_0, q_228_1, q_228_2, q_228_6, q_228_7, q_228_10, q_228_13, q_228_14, q_228_17, q_228_18, q_228_19, q_228_20, q_228_23, q_228_26, q_228_27, q_228_28, q_228_29, q_228_30, q_228_33, q_228_34, q_228_35, q_228_36, q_228_37, q_228_38, q_228_41, q_228_44, q_228_45, q_228_46, q_228_47, q_228_48, q_228_51, q_228_52, q_228_53, q_228_56, q_228_59, q_228_60, q_228_63, q_228_e, va_rf_s, bz_0, bz_1, bz_ok, bb_ok, Nat.add_assoc, w_lt, w_add, w_sub, w_mul, w_div, em_def, w_eq, w_inT, ↓ilt_t, ↓ilt_f, ↓ieq_t, ↓ieq_f, ntT, w_b, w_ix, kx_v, kx_n, kl_n, kl_i, kl_r, kl_o, inA_i, inA_s, inA_b, inA_z, inA_l, inA_0, inA_4, inA_5, inA_6, inA_7, inA_8, inA_9, inA_10, al_0, al_1, al_2, al_4, al_5, al_98, bsP_2, bsP_3, wr_same, wr_wr, wr_ne, up_same, up_ne, Nat.reduceAdd, Int.reduceAdd, Int.reduceSub, Int.reduceMul, Int.reduceLT, Int.reduceLE, Int.reduceEq, Int.reduceNeg, Int.reduceToNat, Nat.reduceLT, Nat.reduceLeDiff, Nat.reduceEqDiff, ↓reduceIte, true_and, and_true, not_true_eq_false, not_false_eq_true, eq_self, or_true, true_or, or_false, false_or, if_true, if_false, Int.toNat_natCast, w_ite, Nat.add_zero, reduceCtorEq, ne_eq, hm]
    refine h2.sd (l := 1 - l) (by omega) hn (fun I3 hF3 h3 hR3 => ?_)
    have h03 : I3 m 0 = w 0 := by rw [hF3.2 0 (by omega), hF2.2 0 (by omega)]; exact h0
    have hFF := (hF.trans hM2).trans (hF3.mfr (L := L))
    have hr := (h1.rs cl).ok
    have hro := (h1.rs (l := 1 - l) (by omega)).ok
    cases hs : sd (rlz s (1 - l)) n with
    | none =>
      have hQ' := hQ.ans h3 h03 hFF
      unfold vHeard at hQ'
      rw [T_sd, hs] at hQ'
      simp (disch := omega) only [q_228_0, q_228_1, q_228_2, q_228_6, q_228_7, q_228_10, q_228_13, q_228_14, q_228_17, q_228_18, q_228_19, q_228_20, q_228_23, q_228_26, q_228_27, q_228_28, q_228_29, q_228_30, q_228_33, q_228_34, q_228_35, q_228_36, q_228_37, q_228_38, q_228_41, q_228_44, q_228_45, q_228_46, q_228_47, q_228_48, q_228_51, q_228_52, q_228_53, q_228_56, q_228_59, q_228_60, q_228_63, q_228_e, va_rf_s, bz_0, bz_1, bz_ok, bb_ok, Nat.add_assoc, w_lt, w_add, w_sub, w_mul, w_div, em_def, w_eq, w_inT, ↓ilt_t, ↓ilt_f, ↓ieq_t, ↓ieq_f, ntT, w_b, w_ix, kx_v, kx_n, kl_n, kl_i, kl_r, kl_o, inA_i, inA_s, inA_b, inA_z, inA_l, inA_0, inA_4, inA_5, inA_6, inA_7, inA_8, inA_9, inA_10, al_0, al_1, al_2, al_4, al_5, al_98, bsP_2, bsP_3, wr_same, wr_wr, wr_ne, up_same, up_ne, Nat.reduceAdd, Int.reduceAdd, Int.reduceSub, Int.reduceMul, Int.reduceLT, Int.reduceLE, Int.reduceEq, Int.reduceNeg, Int.reduceToNat, Nat.reduceLT, Nat.reduceLeDiff, Nat.reduceEqDiff, ↓reduceIte, true_and, and_true, not_true_eq_false, not_false_eq_true, eq_self, or_true, true_or, or_false, false_or, if_true, if_false, Int.toNat_natCast, w_ite, Nat.add_zero, reduceCtorEq, ne_eq, Option.isSome]
      exact hQ'
    | some y =>
      obtain ⟨t, a⟩ := y
      have hT : T (rlz s (1 - l)) n = some t := by rw [T_sd, hs]; rfl
      have hto := T_ok hro hT
      obtain ⟨e16, eT, -⟩ := hR3.1 t a hs
      have hA3 : LdA I3 m (rlz s l) s.2.1.1 := hA2.keep (hF3.1 _ (by omega) (by omega)) (hF3.1 _ (by omega) (by omega)) (hF3.1 _ (by omega) (by omega))
      obtain ⟨e13, p1, p2⟩ := h3.2.2.2.2.2.1
      have hS := h1.1.2.2.2.2.2.2.2.1.1
      simp (disch := omega) only [q_228_0, q_228_1, q_228_2, q_228_6, q_228_7, q_228_10, q_228_13, q_228_14, q_228_17, q_228_18, q_228_19, q_228_20, q_228_23, q_228_26, q_228_27, q_228_28, q_228_29, q_228_30, q_228_33, q_228_34, q_228_35, q_228_36, q_228_37, q_228_38, q_228_41, q_228_44, q_228_45, q_228_46, q_228_47, q_228_48, q_228_51, q_228_52, q_228_53, q_228_56, q_228_59, q_228_60, q_228_63, q_228_e, va_rf_s, bz_0, bz_1, bz_ok, bb_ok, Nat.add_assoc, w_lt, w_add, w_sub, w_mul, w_div, em_def, w_eq, w_inT, ↓ilt_t, ↓ilt_f, ↓ieq_t, ↓ieq_f, ntT, w_b, w_ix, kx_v, kx_n, kl_n, kl_i, kl_r, kl_o, inA_i, inA_s, inA_b, inA_z, inA_l, inA_0, inA_4, inA_5, inA_6, inA_7, inA_8, inA_9, inA_10, al_0, al_1, al_2, al_4, al_5, al_98, bsP_2, bsP_3, wr_same, wr_wr, wr_ne, up_same, up_ne, Nat.reduceAdd, Int.reduceAdd, Int.reduceSub, Int.reduceMul, Int.reduceLT, Int.reduceLE, Int.reduceEq, Int.reduceNeg, Int.reduceToNat, Nat.reduceLT, Nat.reduceLeDiff, Nat.reduceEqDiff, ↓reduceIte, true_and, and_true, not_true_eq_false, not_false_eq_true, eq_self, or_true, true_or, or_false, false_or, if_true, if_false, Int.toNat_natCast, w_ite, Nat.add_zero, reduceCtorEq, ne_eq, hm, Option.isSome, e16]
      refine sp_219 (p := 0) h.1 hr hA3 e13 p2 (by omega) hS (by decide) (by omega) eT (fun b hb => by rcases hto.1 b hb with e | e <;> omega) (by omega) (fun I4 hF4 e33 e34 e35 => ?_)
      have hQ' := hQ.ans (h3.lu hF4) (by rw [hF4.2 0 (by omega)]; exact h03) (hFF.trans (fun a ha => ⟨hF4.1 a (by omega), rfl⟩))
      unfold vHeard at hQ'
      rw [hT] at hQ'
      simp (disch := omega) only [q_228_0, q_228_1, q_228_2, q_228_6, q_228_7, q_228_10, q_228_13, q_228_14, q_228_17, q_228_18, q_228_19, q_228_20, q_228_23, q_228_26, q_228_27, q_228_28, q_228_29, q_228_30, q_228_33, q_228_34, q_228_35, q_228_36, q_228_37, q_228_38, q_228_41, q_228_44, q_228_45, q_228_46, q_228_47, q_228_48, q_228_51, q_228_52, q_228_53, q_228_56, q_228_59, q_228_60, q_228_63, q_228_e, va_rf_s, bz_0, bz_1, bz_ok, bb_ok, Nat.add_assoc, w_lt, w_add, w_sub, w_mul, w_div, em_def, w_eq, w_inT, ↓ilt_t, ↓ilt_f, ↓ieq_t, ↓ieq_f, ntT, w_b, w_ix, kx_v, kx_n, kl_n, kl_i, kl_r, kl_o, inA_i, inA_s, inA_b, inA_z, inA_l, inA_0, inA_4, inA_5, inA_6, inA_7, inA_8, inA_9, inA_10, al_0, al_1, al_2, al_4, al_5, al_98, bsP_2, bsP_3, wr_same, wr_wr, wr_ne, up_same, up_ne, Nat.reduceAdd, Int.reduceAdd, Int.reduceSub, Int.reduceMul, Int.reduceLT, Int.reduceLE, Int.reduceEq, Int.reduceNeg, Int.reduceToNat, Nat.reduceLT, Nat.reduceLeDiff, Nat.reduceEqDiff, ↓reduceIte, true_and, and_true, not_true_eq_false, not_false_eq_true, eq_self, or_true, true_or, or_false, false_or, if_true, if_false, Int.toNat_natCast, w_ite, Nat.add_zero, reduceCtorEq, ne_eq, hm, e33]
      exact hQ'
  · have s182 := fun {d : Nat} {Q : XO → Hp → Prop} {A : Hp} => n182 (d := d) (Q := Q) (A := A) hl cl
    rw [if_neg cl] at hQ
    simp (disch := omega) only [q_228_0, q_228_1, q_228_2, q_228_6, q_228_7, q_228_10, q_228_13, q_228_14, q_228_17, q_228_18, q_228_19, q_228_20, q_228_23, q_228_26, q_228_27, q_228_28, q_228_29, q_228_30, q_228_33, q_228_34, q_228_35, q_228_36, q_228_37, q_228_38, q_228_41, q_228_44, q_228_45, q_228_46, q_228_47, q_228_48, q_228_51, q_228_52, q_228_53, q_228_56, q_228_59, q_228_60, q_228_63, q_228_e, va_rf_s, bz_0, bz_1, bz_ok, bb_ok, Nat.add_assoc, w_lt, w_add, w_sub, w_mul, w_div, em_def, w_eq, w_inT, ↓ilt_t, ↓ilt_f, ↓ieq_t, ↓ieq_f, ntT, w_b, w_ix, kx_v, kx_n, kl_n, kl_i, kl_r, kl_o, inA_i, inA_s, inA_b, inA_z, inA_l, inA_0, inA_4, inA_5, inA_6, inA_7, inA_8, inA_9, inA_10, al_0, al_1, al_2, al_4, al_5, al_98, bsP_2, bsP_3, wr_same, wr_wr, wr_ne, up_same, up_ne, Nat.reduceAdd, Int.reduceAdd, Int.reduceSub, Int.reduceMul, Int.reduceLT, Int.reduceLE, Int.reduceEq, Int.reduceNeg, Int.reduceToNat, Nat.reduceLT, Nat.reduceLeDiff, Nat.reduceEqDiff, ↓reduceIte, true_and, and_true, not_true_eq_false, not_false_eq_true, eq_self, or_true, true_or, or_false, false_or, if_true, if_false, Int.toNat_natCast, w_ite, Nat.add_zero, reduceCtorEq, ne_eq, hm, s182, b10]
    exact MK.mis h1 hf hF hQ
theorem sp_220 {l n x : Int} (h : MS S I R G m s) (hf : few s) (hl : B32 l) (hn : B32 n) (hx : B32 x) (hQ : MK S I L R G m Q true (rRead s l n x)) : XC (d + 70) 220 [.ref m, .int (w l), .int (w n), .int (w x)] (mk S I L R G) Q := by
  have hm := h.1.1
  obtain ⟨I1, e, h1, h0, hF⟩ := h.st (L := L)
  have b00 := fun {d : Nat} {Q : XO → Hp → Prop} {e r : Int32} => h1.b00 (d := d) (Q := Q) (L := L) h0 (e := e) (r := r)
  have b10 := fun {d : Nat} {Q : XO → Hp → Prop} => h1.b10 (d := d) (Q := Q) (L := L) h0 (e := 1) (Or.inl rfl)
  have b11 := fun {d : Nat} {Q : XO → Hp → Prop} => h1.b11 (d := d) (Q := Q) (L := L) h0 (e := 2) (Or.inr rfl)
  obtain ⟨t2, t400, tT, tb⟩ := h1.2.2.2.1
  unfold rRead at hQ
  simp (disch := omega) only [q_220_0, q_220_1, q_220_2, q_220_6, q_220_7, q_220_10, q_220_13, q_220_14, q_220_17, q_220_18, q_220_19, q_220_20, q_220_23, q_220_26, q_220_27, q_220_28, q_220_29, q_220_30, q_220_33, q_220_36, q_220_39, q_220_40, q_220_41, q_220_42, q_220_45, q_220_48, q_220_49, q_220_52, q_220_53, q_220_54, q_220_55, q_220_58, q_220_61, q_220_62, q_220_63, q_220_64, q_220_65, q_220_68, q_220_69, q_220_73, q_220_74, q_220_77, q_220_78, q_220_81, q_220_83, q_220_84, q_220_87, q_220_89, q_220_90, q_220_91, q_220_92, q_220_95, q_220_98, q_220_99, q_220_100, q_220_103, q_220_104, q_220_105, q_220_108, q_220_109, q_220_112, q_220_113, q_220_116, q_220_119, q_220_120, q_220_121, q_220_124, q_220_125, q_220_128, q_220_131, q_220_132, q_220_135, q_220_e, va_rf_s, bz_0, bz_1, bz_ok, bb_ok, Nat.add_assoc, w_lt, w_add, w_sub, w_mul, w_div, em_def, w_eq, w_inT, ↓ilt_t, ↓ilt_f, ↓ieq_t, ↓ieq_f, ntT, w_b, w_ix, kx_v, kx_n, kl_n, kl_i, kl_r, kl_o, inA_i, inA_s, inA_b, inA_z, inA_l, inA_0, inA_4, inA_5, inA_6, inA_7, inA_8, inA_9, inA_10, al_0, al_1, al_2, al_4, al_5, al_98, bsP_2, bsP_3, wr_same, wr_wr, wr_ne, up_same, up_ne, Nat.reduceAdd, Int.reduceAdd, Int.reduceSub, Int.reduceMul, Int.reduceLT, Int.reduceLE, Int.reduceEq, Int.reduceNeg, Int.reduceToNat, Nat.reduceLT, Nat.reduceLeDiff, Nat.reduceEqDiff, ↓reduceIte, true_and, and_true, not_true_eq_false, not_false_eq_true, eq_self, or_true, true_or, or_false, false_or, if_true, if_false, Int.toNat_natCast, w_ite, Nat.add_zero, reduceCtorEq, ne_eq, hm]
  rw [e, q_220_5]
  by_cases cl : inL l
  · have s182 := fun {d : Nat} {Q : XO → Hp → Prop} {A : Hp} => l182 (d := d) (Q := Q) (A := A) hl cl
    rw [if_pos cl] at hQ
    by_cases cn : 0 ≤ n ∧ n ≤ s.1.length
    · have s155n := fun {d : Nat} {Q : XO → Hp → Prop} {A : Hp} => l155 (d := d) (Q := Q) (A := A) hn (a := 0) (b := (s.1.length : Int)) (by decide) (by constructor <;> omega) cn
      by_cases cx : 0 ≤ x ∧ x ≤ 2
      · have s155 := fun {d : Nat} {Q : XO → Hp → Prop} {A : Hp} => l155 (d := d) (Q := Q) (A := A) hx (a := 0) (b := 2) (by decide) (by decide) cx
        rw [if_pos ⟨cn, cx⟩] at hQ
        simp (disch := omega) only [q_220_0, q_220_1, q_220_2, q_220_6, q_220_7, q_220_10, q_220_13, q_220_14, q_220_17, q_220_18, q_220_19, q_220_20, q_220_23, q_220_26, q_220_27, q_220_28, q_220_29, q_220_30, q_220_33, q_220_36, q_220_39, q_220_40, q_220_41, q_220_42, q_220_45, q_220_48, q_220_49, q_220_52, q_220_53, q_220_54, q_220_55, q_220_58, q_220_61, q_220_62, q_220_63, q_220_64, q_220_65, q_220_68, q_220_69, q_220_73, q_220_74, q_220_77, q_220_78, q_220_81, q_220_83, q_220_84, q_220_87, q_220_89, q_220_90, q_220_91, q_220_92, q_220_95, q_220_98, q_220_99, q_220_100, q_220_103, q_220_104, q_220_105, q_220_108, q_220_109, q_220_112, q_220_113, q_220_116, q_220_119, q_220_120, q_220_121, q_220_124, q_220_125, q_220_128, q_220_131, q_220_132, q_220_135, q_220_e, va_rf_s, bz_0, bz_1, bz_ok, bb_ok, Nat.add_assoc, w_lt, w_add, w_sub, w_mul, w_div, em_def, w_eq, w_inT, ↓ilt_t, ↓ilt_f, ↓ieq_t, ↓ieq_f, ntT, w_b, w_ix, kx_v, kx_n, kl_n, kl_i, kl_r, kl_o, inA_i, inA_s, inA_b, inA_z, inA_l, inA_0, inA_4, inA_5, inA_6, inA_7, inA_8, inA_9, inA_10, al_0, al_1, al_2, al_4, al_5, al_98, bsP_2, bsP_3, wr_same, wr_wr, wr_ne, up_same, up_ne, Nat.reduceAdd, Int.reduceAdd, Int.reduceSub, Int.reduceMul, Int.reduceLT, Int.reduceLE, Int.reduceEq, Int.reduceNeg, Int.reduceToNat, Nat.reduceLT, Nat.reduceLeDiff, Nat.reduceEqDiff, ↓reduceIte, true_and, and_true, not_true_eq_false, not_false_eq_true, eq_self, or_true, true_or, or_false, false_or, if_true, if_false, Int.toNat_natCast, w_ite, Nat.add_zero, reduceCtorEq, ne_eq, hm, s182, t2, s155n, s155, b00]
        refine h1.lays cl (fun I2 hF2 h2 hM2 e22 hA2 => ?_)
        have h02 : I2 m 0 = w 0 := by rw [hF2.2 0 (by omega)]; exact h0
        have hFF := hF.trans hM2
        have hr := (h1.rs cl).ok
        obtain ⟨e13, p1, p2⟩ := h2.2.2.2.2.2.1
        have hS2 := h.1.2.2.1
        have hSr := h.1.2.2.2.2.2.2.2.2.2.1.1
        have tT2 : Txt (I2 (m + 2)) 0 s.1 := by rw [hF2.1 _ (by omega) (by omega)]; exact tT
        have en : n = (n.toNat : Int) := by omega
        have hlen : ((s.1.take n.toNat).map sb).length = n.toNat := by rw [List.length_map, List.length_take]; omega
        have fin : ∀ I3 : MI, (∀ x, x ≠ m + 6585 → I3 x = I2 x) → Txt (I3 (m + 6585)) 0 ((s.1.take n.toNat).map sb) → XX (d + 70) 220 98 [some (.ref m), some (.int (w l)), some (.int (w n)), some (.int (w x)), some (.int (w n))] [] (mk S I3 L R G) Q := by
          intro I3 f3 tx3
          have hM3 : MFr I2 L I3 L m := fun a ha => ⟨f3 a (by omega), rfl⟩
          have hl9 := h2.2.2.2.2.2.2.2.2
          have h3 : MS S I3 R G m s := h2.sc (fun a a1 a2 => f3 a (by omega)) (fun j j1 j2 => by rw [f3 _ (by omega)]) (hl9.keep (by rw [f3 _ (by omega)]) (f3 _ (by omega)) (f3 _ (by omega)) (f3 _ (by omega)))
          have s219 := fun {d : Nat} {Q : XO → Hp → Prop} => sp_219 (d := d) (Q := Q) (L := L) (G := G) (a := m + 6585) (p := 0) (n1 := 400) (t := (s.1.take n.toNat).map sb) h.1 hr (hA2.keep (I' := I3) (f3 _ (by omega)) (f3 _ (by omega)) (f3 _ (by omega))) (by rw [f3 _ (by omega)]; exact e13) p2 (by omega) hSr (by decide) (by omega) tx3 (fun b hb => by
            obtain ⟨y, hy, rfl⟩ := List.mem_map.mp hb
            have := tb y (List.mem_of_mem_take hy)
            exact sb_bd this.1 this.2) (by omega)
          rw [hlen, ← en] at s219
          simp (disch := omega) only [q_220_0, q_220_1, q_220_2, q_220_6, q_220_7, q_220_10, q_220_13, q_220_14, q_220_17, q_220_18, q_220_19, q_220_20, q_220_23, q_220_26, q_220_27, q_220_28, q_220_29, q_220_30, q_220_33, q_220_36, q_220_39, q_220_40, q_220_41, q_220_42, q_220_45, q_220_48, q_220_49, q_220_52, q_220_53, q_220_54, q_220_55, q_220_58, q_220_61, q_220_62, q_220_63, q_220_64, q_220_65, q_220_68, q_220_69, q_220_73, q_220_74, q_220_77, q_220_78, q_220_81, q_220_83, q_220_84, q_220_87, q_220_89, q_220_90, q_220_91, q_220_92, q_220_95, q_220_98, q_220_99, q_220_100, q_220_103, q_220_104, q_220_105, q_220_108, q_220_109, q_220_112, q_220_113, q_220_116, q_220_119, q_220_120, q_220_121, q_220_124, q_220_125, q_220_128, q_220_131, q_220_132, q_220_135, q_220_e, va_rf_s, bz_0, bz_1, bz_ok, bb_ok, Nat.add_assoc, w_lt, w_add, w_sub, w_mul, w_div, em_def, w_eq, w_inT, ↓ilt_t, ↓ilt_f, ↓ieq_t, ↓ieq_f, ntT, w_b, w_ix, kx_v, kx_n, kl_n, kl_i, kl_r, kl_o, inA_i, inA_s, inA_b, inA_z, inA_l, inA_0, inA_4, inA_5, inA_6, inA_7, inA_8, inA_9, inA_10, al_0, al_1, al_2, al_4, al_5, al_98, bsP_2, bsP_3, wr_same, wr_wr, wr_ne, up_same, up_ne, Nat.reduceAdd, Int.reduceAdd, Int.reduceSub, Int.reduceMul, Int.reduceLT, Int.reduceLE, Int.reduceEq, Int.reduceNeg, Int.reduceToNat, Nat.reduceLT, Nat.reduceLeDiff, Nat.reduceEqDiff, ↓reduceIte, true_and, and_true, not_true_eq_false, not_false_eq_true, eq_self, or_true, true_or, or_false, false_or, if_true, if_false, Int.toNat_natCast, w_ite, Nat.add_zero, reduceCtorEq, ne_eq, hm]
          refine s219 (fun I4 hF4 e33 e34 e35 => ?_)
          have hQ' := hQ.ans (h3.lu hF4) (by rw [hF4.2 0 (by omega), f3 _ (by omega)]; exact h02) ((hFF.trans hM3).trans (fun a ha => ⟨hF4.1 a (by omega), rfl⟩))
          unfold vRead at hQ'
          have hcs : x = 0 ∨ x = 1 ∨ x = 2 := by omega
          rcases hcs with rfl | rfl | rfl
          · simp (disch := omega) only [q_220_0, q_220_1, q_220_2, q_220_6, q_220_7, q_220_10, q_220_13, q_220_14, q_220_17, q_220_18, q_220_19, q_220_20, q_220_23, q_220_26, q_220_27, q_220_28, q_220_29, q_220_30, q_220_33, q_220_36, q_220_39, q_220_40, q_220_41, q_220_42, q_220_45, q_220_48, q_220_49, q_220_52, q_220_53, q_220_54, q_220_55, q_220_58, q_220_61, q_220_62, q_220_63, q_220_64, q_220_65, q_220_68, q_220_69, q_220_73, q_220_74, q_220_77, q_220_78, q_220_81, q_220_83, q_220_84, q_220_87, q_220_89, q_220_90, q_220_91, q_220_92, q_220_95, q_220_98, q_220_99, q_220_100, q_220_103, q_220_104, q_220_105, q_220_108, q_220_109, q_220_112, q_220_113, q_220_116, q_220_119, q_220_120, q_220_121, q_220_124, q_220_125, q_220_128, q_220_131, q_220_132, q_220_135, q_220_e, va_rf_s, bz_0, bz_1, bz_ok, bb_ok, Nat.add_assoc, w_lt, w_add, w_sub, w_mul, w_div, em_def, w_eq, w_inT, ↓ilt_t, ↓ilt_f, ↓ieq_t, ↓ieq_f, ntT, w_b, w_ix, kx_v, kx_n, kl_n, kl_i, kl_r, kl_o, inA_i, inA_s, inA_b, inA_z, inA_l, inA_0, inA_4, inA_5, inA_6, inA_7, inA_8, inA_9, inA_10, al_0, al_1, al_2, al_4, al_5, al_98, bsP_2, bsP_3, wr_same, wr_wr, wr_ne, up_same, up_ne, Nat.reduceAdd, Int.reduceAdd, Int.reduceSub, Int.reduceMul, Int.reduceLT, Int.reduceLE, Int.reduceEq, Int.reduceNeg, Int.reduceToNat, Nat.reduceLT, Nat.reduceLeDiff, Nat.reduceEqDiff, ↓reduceIte, true_and, and_true, not_true_eq_false, not_false_eq_true, eq_self, or_true, true_or, or_false, false_or, if_true, if_false, Int.toNat_natCast, w_ite, Nat.add_zero, reduceCtorEq, ne_eq, hm, e33]
            exact hQ'
          · simp (disch := omega) only [q_220_0, q_220_1, q_220_2, q_220_6, q_220_7, q_220_10, q_220_13, q_220_14, q_220_17, q_220_18, q_220_19, q_220_20, q_220_23, q_220_26, q_220_27, q_220_28, q_220_29, q_220_30, q_220_33, q_220_36, q_220_39, q_220_40, q_220_41, q_220_42, q_220_45, q_220_48, q_220_49, q_220_52, q_220_53, q_220_54, q_220_55, q_220_58, q_220_61, q_220_62, q_220_63, q_220_64, q_220_65, q_220_68, q_220_69, q_220_73, q_220_74, q_220_77, q_220_78, q_220_81, q_220_83, q_220_84, q_220_87, q_220_89, q_220_90, q_220_91, q_220_92, q_220_95, q_220_98, q_220_99, q_220_100, q_220_103, q_220_104, q_220_105, q_220_108, q_220_109, q_220_112, q_220_113, q_220_116, q_220_119, q_220_120, q_220_121, q_220_124, q_220_125, q_220_128, q_220_131, q_220_132, q_220_135, q_220_e, va_rf_s, bz_0, bz_1, bz_ok, bb_ok, Nat.add_assoc, w_lt, w_add, w_sub, w_mul, w_div, em_def, w_eq, w_inT, ↓ilt_t, ↓ilt_f, ↓ieq_t, ↓ieq_f, ntT, w_b, w_ix, kx_v, kx_n, kl_n, kl_i, kl_r, kl_o, inA_i, inA_s, inA_b, inA_z, inA_l, inA_0, inA_4, inA_5, inA_6, inA_7, inA_8, inA_9, inA_10, al_0, al_1, al_2, al_4, al_5, al_98, bsP_2, bsP_3, wr_same, wr_wr, wr_ne, up_same, up_ne, Nat.reduceAdd, Int.reduceAdd, Int.reduceSub, Int.reduceMul, Int.reduceLT, Int.reduceLE, Int.reduceEq, Int.reduceNeg, Int.reduceToNat, Nat.reduceLT, Nat.reduceLeDiff, Nat.reduceEqDiff, ↓reduceIte, true_and, and_true, not_true_eq_false, not_false_eq_true, eq_self, or_true, true_or, or_false, false_or, if_true, if_false, Int.toNat_natCast, w_ite, Nat.add_zero, reduceCtorEq, ne_eq, hm, e34]
            exact hQ'
          · simp (disch := omega) only [q_220_0, q_220_1, q_220_2, q_220_6, q_220_7, q_220_10, q_220_13, q_220_14, q_220_17, q_220_18, q_220_19, q_220_20, q_220_23, q_220_26, q_220_27, q_220_28, q_220_29, q_220_30, q_220_33, q_220_36, q_220_39, q_220_40, q_220_41, q_220_42, q_220_45, q_220_48, q_220_49, q_220_52, q_220_53, q_220_54, q_220_55, q_220_58, q_220_61, q_220_62, q_220_63, q_220_64, q_220_65, q_220_68, q_220_69, q_220_73, q_220_74, q_220_77, q_220_78, q_220_81, q_220_83, q_220_84, q_220_87, q_220_89, q_220_90, q_220_91, q_220_92, q_220_95, q_220_98, q_220_99, q_220_100, q_220_103, q_220_104, q_220_105, q_220_108, q_220_109, q_220_112, q_220_113, q_220_116, q_220_119, q_220_120, q_220_121, q_220_124, q_220_125, q_220_128, q_220_131, q_220_132, q_220_135, q_220_e, va_rf_s, bz_0, bz_1, bz_ok, bb_ok, Nat.add_assoc, w_lt, w_add, w_sub, w_mul, w_div, em_def, w_eq, w_inT, ↓ilt_t, ↓ilt_f, ↓ieq_t, ↓ieq_f, ntT, w_b, w_ix, kx_v, kx_n, kl_n, kl_i, kl_r, kl_o, inA_i, inA_s, inA_b, inA_z, inA_l, inA_0, inA_4, inA_5, inA_6, inA_7, inA_8, inA_9, inA_10, al_0, al_1, al_2, al_4, al_5, al_98, bsP_2, bsP_3, wr_same, wr_wr, wr_ne, up_same, up_ne, Nat.reduceAdd, Int.reduceAdd, Int.reduceSub, Int.reduceMul, Int.reduceLT, Int.reduceLE, Int.reduceEq, Int.reduceNeg, Int.reduceToNat, Nat.reduceLT, Nat.reduceLeDiff, Nat.reduceEqDiff, ↓reduceIte, true_and, and_true, not_true_eq_false, not_false_eq_true, eq_self, or_true, true_or, or_false, false_or, if_true, if_false, Int.toNat_natCast, w_ite, Nat.add_zero, reduceCtorEq, ne_eq, hm, e35]
            exact hQ'
        have cp : ∀ (j c : Nat), c + j = n.toNat → XX (d + 70) 220 71 [some (.ref m), some (.int (w l)), some (.int (w n)), some (.int (w x)), some (.int (w c))] [] (mk S (wr I2 (m + 6585) (pw (I2 (m + 6585)) 0 (((s.1.take n.toNat).map sb).take c))) L R G) Q := by
          intro j
          induction j with
          | zero =>
            intro c hc
            have ec : (c : Int) = n := by omega
            have := fin (wr I2 (m + 6585) (pw (I2 (m + 6585)) 0 (((s.1.take n.toNat).map sb).take c))) (fun x hx => wr_ne hx) (by rw [wr_same, List.take_of_length_le (by omega)]; exact pw_txt _ _ _)
            rw [q_220_71]
            simp (disch := omega) only [q_220_0, q_220_1, q_220_2, q_220_6, q_220_7, q_220_10, q_220_13, q_220_14, q_220_17, q_220_18, q_220_19, q_220_20, q_220_23, q_220_26, q_220_27, q_220_28, q_220_29, q_220_30, q_220_33, q_220_36, q_220_39, q_220_40, q_220_41, q_220_42, q_220_45, q_220_48, q_220_49, q_220_52, q_220_53, q_220_54, q_220_55, q_220_58, q_220_61, q_220_62, q_220_63, q_220_64, q_220_65, q_220_68, q_220_69, q_220_73, q_220_74, q_220_77, q_220_78, q_220_81, q_220_83, q_220_84, q_220_87, q_220_89, q_220_90, q_220_91, q_220_92, q_220_95, q_220_99, q_220_100, q_220_103, q_220_104, q_220_105, q_220_108, q_220_109, q_220_112, q_220_113, q_220_116, q_220_119, q_220_120, q_220_121, q_220_124, q_220_125, q_220_128, q_220_131, q_220_132, q_220_135, q_220_e, va_rf_s, bz_0, bz_1, bz_ok, bb_ok, Nat.add_assoc, w_lt, w_add, w_sub, w_mul, w_div, em_def, w_eq, w_inT, ↓ilt_t, ↓ilt_f, ↓ieq_t, ↓ieq_f, ntT, w_b, w_ix, kx_v, kx_n, kl_n, kl_i, kl_r, kl_o, inA_i, inA_s, inA_b, inA_z, inA_l, inA_0, inA_4, inA_5, inA_6, inA_7, inA_8, inA_9, inA_10, al_0, al_1, al_2, al_4, al_5, al_98, bsP_2, bsP_3, wr_same, wr_wr, wr_ne, up_same, up_ne, Nat.reduceAdd, Int.reduceAdd, Int.reduceSub, Int.reduceMul, Int.reduceLT, Int.reduceLE, Int.reduceEq, Int.reduceNeg, Int.reduceToNat, Nat.reduceLT, Nat.reduceLeDiff, Nat.reduceEqDiff, ↓reduceIte, true_and, and_true, not_true_eq_false, not_false_eq_true, eq_self, or_true, true_or, or_false, false_or, if_true, if_false, Int.toNat_natCast, w_ite, Nat.add_zero, reduceCtorEq, ne_eq]
            rw [ec]
            exact this
          | succ j jh =>
            intro c hc
            have hcl : c < ((s.1.take n.toNat).map sb).length := by omega
            have jh' := jh (c + 1) (by omega)
            rw [← pw_snoc hcl, Nat.zero_add] at jh'
            simp only [Int.natCast_add, Int.natCast_one] at jh'
            have hcs : c < s.1.length := by omega
            have ech := tT2 c hcs
            rw [Nat.zero_add] at ech
            have hgb : s.1.getD c 0 ∈ s.1 := by rw [List.getD_eq_getElem?_getD, List.getElem?_eq_getElem hcs]; exact List.getElem_mem hcs
            have hbb := tb _ hgb
            have hsbb := sb_bd hbb.1 hbb.2
            have hget : ((s.1.take n.toNat).map sb).getD c 0 = sb (s.1.getD c 0) := by
              simp only [List.getD_eq_getElem?_getD, List.getElem?_map, List.getElem?_take]
              rw [if_pos (by omega), List.getElem?_eq_getElem hcs]; rfl
            rw [hget] at jh'
            have ew := w_sb hbb.1 hbb.2
            have ew2 := w_b (a := sb (s.1.getD c 0)) hsbb.1 hsbb.2
            rw [q_220_71]
            simp (disch := omega) only [q_220_0, q_220_1, q_220_2, q_220_6, q_220_7, q_220_10, q_220_13, q_220_14, q_220_17, q_220_18, q_220_19, q_220_20, q_220_23, q_220_26, q_220_27, q_220_28, q_220_29, q_220_30, q_220_33, q_220_36, q_220_39, q_220_40, q_220_41, q_220_42, q_220_45, q_220_48, q_220_49, q_220_52, q_220_53, q_220_54, q_220_55, q_220_58, q_220_61, q_220_62, q_220_63, q_220_64, q_220_65, q_220_68, q_220_69, q_220_73, q_220_74, q_220_77, q_220_78, q_220_81, q_220_83, q_220_84, q_220_87, q_220_89, q_220_90, q_220_91, q_220_92, q_220_95, q_220_99, q_220_100, q_220_103, q_220_104, q_220_105, q_220_108, q_220_109, q_220_112, q_220_113, q_220_116, q_220_119, q_220_120, q_220_121, q_220_124, q_220_125, q_220_128, q_220_131, q_220_132, q_220_135, q_220_e, va_rf_s, bsP_2, w_lt, w_inT, ↓ilt_t, ↓ilt_f, wr_ne, w_ix, Int.toNat_natCast, kl_i, w_add, true_and, inA_i, inA_b, Nat.reduceAdd, wr_wr, wr_same, hm, hS2, hSr, ech, ew, ew2]
            exact jh'
        have := cp n.toNat 0 (by omega)
        rw [pw_zero, wr_self] at this
        simp (disch := omega) only [q_220_0, q_220_1, q_220_2, q_220_6, q_220_7, q_220_10, q_220_13, q_220_14, q_220_17, q_220_18, q_220_19, q_220_20, q_220_23, q_220_26, q_220_27, q_220_28, q_220_29, q_220_30, q_220_33, q_220_36, q_220_39, q_220_40, q_220_41, q_220_42, q_220_45, q_220_48, q_220_49, q_220_52, q_220_53, q_220_54, q_220_55, q_220_58, q_220_61, q_220_62, q_220_63, q_220_64, q_220_65, q_220_68, q_220_69, q_220_73, q_220_74, q_220_77, q_220_78, q_220_81, q_220_83, q_220_84, q_220_87, q_220_89, q_220_90, q_220_91, q_220_92, q_220_95, q_220_98, q_220_99, q_220_100, q_220_103, q_220_104, q_220_105, q_220_108, q_220_109, q_220_112, q_220_113, q_220_116, q_220_119, q_220_120, q_220_121, q_220_124, q_220_125, q_220_128, q_220_131, q_220_132, q_220_135, q_220_e, va_rf_s, bz_0, bz_1, bz_ok, bb_ok, Nat.add_assoc, w_lt, w_add, w_sub, w_mul, w_div, em_def, w_eq, w_inT, ↓ilt_t, ↓ilt_f, ↓ieq_t, ↓ieq_f, ntT, w_b, w_ix, kx_v, kx_n, kl_n, kl_i, kl_r, kl_o, inA_i, inA_s, inA_b, inA_z, inA_l, inA_0, inA_4, inA_5, inA_6, inA_7, inA_8, inA_9, inA_10, al_0, al_1, al_2, al_4, al_5, al_98, bsP_2, bsP_3, wr_same, wr_wr, wr_ne, up_same, up_ne, Nat.reduceAdd, Int.reduceAdd, Int.reduceSub, Int.reduceMul, Int.reduceLT, Int.reduceLE, Int.reduceEq, Int.reduceNeg, Int.reduceToNat, Nat.reduceLT, Nat.reduceLeDiff, Nat.reduceEqDiff, ↓reduceIte, true_and, and_true, not_true_eq_false, not_false_eq_true, eq_self, or_true, true_or, or_false, false_or, if_true, if_false, Int.toNat_natCast, w_ite, Nat.add_zero, reduceCtorEq, ne_eq]
        exact this
      · have s155 := fun {d : Nat} {Q : XO → Hp → Prop} {A : Hp} => n155 (d := d) (Q := Q) (A := A) hx (a := 0) (b := 2) (by decide) (by decide) cx
        rw [if_neg (fun h => cx h.2)] at hQ
        simp (disch := omega) only [q_220_0, q_220_1, q_220_2, q_220_6, q_220_7, q_220_10, q_220_13, q_220_14, q_220_17, q_220_18, q_220_19, q_220_20, q_220_23, q_220_26, q_220_27, q_220_28, q_220_29, q_220_30, q_220_33, q_220_36, q_220_39, q_220_40, q_220_41, q_220_42, q_220_45, q_220_48, q_220_49, q_220_52, q_220_53, q_220_54, q_220_55, q_220_58, q_220_61, q_220_62, q_220_63, q_220_64, q_220_65, q_220_68, q_220_69, q_220_73, q_220_74, q_220_77, q_220_78, q_220_81, q_220_83, q_220_84, q_220_87, q_220_89, q_220_90, q_220_91, q_220_92, q_220_95, q_220_98, q_220_99, q_220_100, q_220_103, q_220_104, q_220_105, q_220_108, q_220_109, q_220_112, q_220_113, q_220_116, q_220_119, q_220_120, q_220_121, q_220_124, q_220_125, q_220_128, q_220_131, q_220_132, q_220_135, q_220_e, va_rf_s, bz_0, bz_1, bz_ok, bb_ok, Nat.add_assoc, w_lt, w_add, w_sub, w_mul, w_div, em_def, w_eq, w_inT, ↓ilt_t, ↓ilt_f, ↓ieq_t, ↓ieq_f, ntT, w_b, w_ix, kx_v, kx_n, kl_n, kl_i, kl_r, kl_o, inA_i, inA_s, inA_b, inA_z, inA_l, inA_0, inA_4, inA_5, inA_6, inA_7, inA_8, inA_9, inA_10, al_0, al_1, al_2, al_4, al_5, al_98, bsP_2, bsP_3, wr_same, wr_wr, wr_ne, up_same, up_ne, Nat.reduceAdd, Int.reduceAdd, Int.reduceSub, Int.reduceMul, Int.reduceLT, Int.reduceLE, Int.reduceEq, Int.reduceNeg, Int.reduceToNat, Nat.reduceLT, Nat.reduceLeDiff, Nat.reduceEqDiff, ↓reduceIte, true_and, and_true, not_true_eq_false, not_false_eq_true, eq_self, or_true, true_or, or_false, false_or, if_true, if_false, Int.toNat_natCast, w_ite, Nat.add_zero, reduceCtorEq, ne_eq, hm, s182, t2, s155n, s155, b00, b11]
        exact MK.wro h1 hf hF rfl hQ
    · have s155n := fun {d : Nat} {Q : XO → Hp → Prop} {A : Hp} => n155 (d := d) (Q := Q) (A := A) hn (a := 0) (b := (s.1.length : Int)) (by decide) (by constructor <;> omega) cn
      rw [if_neg (fun h => cn h.1)] at hQ
      simp (disch := omega) only [q_220_0, q_220_1, q_220_2, q_220_6, q_220_7, q_220_10, q_220_13, q_220_14, q_220_17, q_220_18, q_220_19, q_220_20, q_220_23, q_220_26, q_220_27, q_220_28, q_220_29, q_220_30, q_220_33, q_220_36, q_220_39, q_220_40, q_220_41, q_220_42, q_220_45, q_220_48, q_220_49, q_220_52, q_220_53, q_220_54, q_220_55, q_220_58, q_220_61, q_220_62, q_220_63, q_220_64, q_220_65, q_220_68, q_220_69, q_220_73, q_220_74, q_220_77, q_220_78, q_220_81, q_220_83, q_220_84, q_220_87, q_220_89, q_220_90, q_220_91, q_220_92, q_220_95, q_220_98, q_220_99, q_220_100, q_220_103, q_220_104, q_220_105, q_220_108, q_220_109, q_220_112, q_220_113, q_220_116, q_220_119, q_220_120, q_220_121, q_220_124, q_220_125, q_220_128, q_220_131, q_220_132, q_220_135, q_220_e, va_rf_s, bz_0, bz_1, bz_ok, bb_ok, Nat.add_assoc, w_lt, w_add, w_sub, w_mul, w_div, em_def, w_eq, w_inT, ↓ilt_t, ↓ilt_f, ↓ieq_t, ↓ieq_f, ntT, w_b, w_ix, kx_v, kx_n, kl_n, kl_i, kl_r, kl_o, inA_i, inA_s, inA_b, inA_z, inA_l, inA_0, inA_4, inA_5, inA_6, inA_7, inA_8, inA_9, inA_10, al_0, al_1, al_2, al_4, al_5, al_98, bsP_2, bsP_3, wr_same, wr_wr, wr_ne, up_same, up_ne, Nat.reduceAdd, Int.reduceAdd, Int.reduceSub, Int.reduceMul, Int.reduceLT, Int.reduceLE, Int.reduceEq, Int.reduceNeg, Int.reduceToNat, Nat.reduceLT, Nat.reduceLeDiff, Nat.reduceEqDiff, ↓reduceIte, true_and, and_true, not_true_eq_false, not_false_eq_true, eq_self, or_true, true_or, or_false, false_or, if_true, if_false, Int.toNat_natCast, w_ite, Nat.add_zero, reduceCtorEq, ne_eq, hm, s182, t2, s155n, b00, b11]
      exact MK.wro h1 hf hF rfl hQ
  · have s182 := fun {d : Nat} {Q : XO → Hp → Prop} {A : Hp} => n182 (d := d) (Q := Q) (A := A) hl cl
    rw [if_neg cl] at hQ
    simp (disch := omega) only [q_220_0, q_220_1, q_220_2, q_220_6, q_220_7, q_220_10, q_220_13, q_220_14, q_220_17, q_220_18, q_220_19, q_220_20, q_220_23, q_220_26, q_220_27, q_220_28, q_220_29, q_220_30, q_220_33, q_220_36, q_220_39, q_220_40, q_220_41, q_220_42, q_220_45, q_220_48, q_220_49, q_220_52, q_220_53, q_220_54, q_220_55, q_220_58, q_220_61, q_220_62, q_220_63, q_220_64, q_220_65, q_220_68, q_220_69, q_220_73, q_220_74, q_220_77, q_220_78, q_220_81, q_220_83, q_220_84, q_220_87, q_220_89, q_220_90, q_220_91, q_220_92, q_220_95, q_220_98, q_220_99, q_220_100, q_220_103, q_220_104, q_220_105, q_220_108, q_220_109, q_220_112, q_220_113, q_220_116, q_220_119, q_220_120, q_220_121, q_220_124, q_220_125, q_220_128, q_220_131, q_220_132, q_220_135, q_220_e, va_rf_s, bz_0, bz_1, bz_ok, bb_ok, Nat.add_assoc, w_lt, w_add, w_sub, w_mul, w_div, em_def, w_eq, w_inT, ↓ilt_t, ↓ilt_f, ↓ieq_t, ↓ieq_f, ntT, w_b, w_ix, kx_v, kx_n, kl_n, kl_i, kl_r, kl_o, inA_i, inA_s, inA_b, inA_z, inA_l, inA_0, inA_4, inA_5, inA_6, inA_7, inA_8, inA_9, inA_10, al_0, al_1, al_2, al_4, al_5, al_98, bsP_2, bsP_3, wr_same, wr_wr, wr_ne, up_same, up_ne, Nat.reduceAdd, Int.reduceAdd, Int.reduceSub, Int.reduceMul, Int.reduceLT, Int.reduceLE, Int.reduceEq, Int.reduceNeg, Int.reduceToNat, Nat.reduceLT, Nat.reduceLeDiff, Nat.reduceEqDiff, ↓reduceIte, true_and, and_true, not_true_eq_false, not_false_eq_true, eq_self, or_true, true_or, or_false, false_or, if_true, if_false, Int.toNat_natCast, w_ite, Nat.add_zero, reduceCtorEq, ne_eq, hm, s182, b10]
    exact MK.mis h1 hf hF hQ
end
